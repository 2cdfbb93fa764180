import java.util.ArrayList;
import java.util.Arrays;
import java.util.List;
import java.util.NoSuchElementException;
import java.util.function.Predicate;
import java.util.regex.Matcher;
import java.util.regex.Pattern;

/**
 * The document once more, written as plainly as can be with the whole library and by other ways (all orders, all sets,
 * Hall's condition), for ModelTest to compare OakYard with.
 */
public final class PlainYard {
    static final int NONE = -1;

    static final class Tree {
        int wood;
        int sort;
        int length;
        int thick;
        int bend;
        int heart;
        boolean felled;

        Tree copy() {
            Tree t = new Tree();
            t.wood = wood;
            t.sort = sort;
            t.length = length;
            t.thick = thick;
            t.bend = bend;
            t.heart = heart;
            t.felled = felled;
            return t;
        }

        Piece as(int kind) {
            Piece p = new Piece();
            p.kind = kind;
            p.sort = sort;
            p.thick = thick;
            p.length = kind == 1 ? length : Math.max(5, length - Math.abs(bend));
            p.bend = kind == 1 ? bend : 0;
            return p;
        }
    }

    static final class Piece implements Cloneable {
        int kind;
        int sort;
        int length;
        int thick;
        int bend;
        int tree = NONE;
        int dry;
        int rot;
        int place;
        int shows;
        boolean looked;
        int hearted;
        int from;
        int comes;
        int ship = NONE;
        int need = NONE;
        boolean bad;
        int shedDay = NONE;

        Piece copy() {
            try {
                return (Piece) clone();
            } catch (CloneNotSupportedException e) {
                throw new AssertionError(e);
            }
        }
    }

    static final class Ship {
        int deep;
        int work;
        boolean hired;
        int state;
        int dock = NONE;
        int launched = NONE;
        boolean open;
        int owes;
        final List<int[]> needs = new ArrayList<>();

        Ship copy() {
            Ship s = new Ship();
            s.deep = deep;
            s.work = work;
            s.hired = hired;
            s.state = state;
            s.dock = dock;
            s.launched = launched;
            s.open = open;
            s.owes = owes;
            s.needs.addAll(needs);
            return s;
        }
    }

    /** What the conditions of a line are asked about. */
    static final class Facts {
        String sort = "";
        boolean hired;
        boolean seen;
        int dry;
        int rot;
        int thick;
        int length;
        int age;
        int gangs;

        int of(String fact) {
            return switch (fact) {
                case "dry" -> dry;
                case "rot" -> rot;
                case "thick" -> thick;
                case "long" -> length;
                case "age" -> age;
                default -> gangs;
            };
        }
    }

    record Line(String verb, int number, Predicate<Facts> condition) {
    }

    record Warrant(int day, List<Line> lines) {
    }

    static final class State {
        int day;
        int[] road = {10, 10, 10, 10, 10, 10};
        List<Tree> trees = new ArrayList<>();
        List<Piece> pieces = new ArrayList<>();
        int shedRoom = 20;
        List<Warrant> warrants = new ArrayList<>();
        List<Ship> ships = new ArrayList<>();
        int slips = 2;
        List<Integer> sills = new ArrayList<>();
        int[] tides = new int[28];
        List<Integer> strengths = new ArrayList<>();
        List<Integer> gangShips = new ArrayList<>();
        List<int[]> entries = new ArrayList<>();
        List<int[]> musters = new ArrayList<>();
        List<int[]> choices = new ArrayList<>();
        int[][] coin = new int[3][10];
        int chips;
        int opened;

        State copy() {
            State s = new State();
            s.day = day;
            s.road = road.clone();
            trees.forEach(t -> s.trees.add(t.copy()));
            pieces.forEach(p -> s.pieces.add(p.copy()));
            s.shedRoom = shedRoom;
            s.warrants.addAll(warrants);
            ships.forEach(x -> s.ships.add(x.copy()));
            s.slips = slips;
            s.sills.addAll(sills);
            s.tides = tides.clone();
            s.strengths.addAll(strengths);
            s.gangShips.addAll(gangShips);
            s.entries.addAll(entries);
            s.musters.addAll(musters);
            s.choices.addAll(choices);
            for (int r = 0; r < 3; r++) {
                s.coin[r] = coin[r].clone();
            }
            s.chips = chips;
            s.opened = opened;
            return s;
        }
    }

    private State s = new State();
    private State undo;
    private State image;
    private final StringBuilder tape = new StringBuilder();
    private int fault = NONE;

    // ---- refusals

    private static void index(int n, List<?> of) {
        index(n >= 0 && n < of.size());
    }

    private static void index(boolean ok) {
        if (!ok) {
            throw new IndexOutOfBoundsException();
        }
    }

    private static void number(boolean ok) {
        if (!ok) {
            throw new IllegalArgumentException();
        }
    }

    private static void room(boolean ok) {
        if (!ok) {
            throw new UnsupportedOperationException();
        }
    }

    private static boolean in(int n, int a, int b) {
        return a <= n && n <= b;
    }

    private static boolean bendOk(int kind, int bend) {
        return bend == 0 || kind == 1 && in(bend, -9, 9);
    }

    // ---- the tape and texts

    public int feed(int a, int b, int c, int d, int e) {
        if (tape.length() > 380) {
            return NONE;
        }
        for (int number : new int[] {a, b, c, d, e}) {
            for (int shift = 24; shift >= 0; shift -= 8) {
                tape.append((char) (number >> shift & 0xff));
            }
        }
        return tape.length();
    }

    public boolean end(int n) {
        if (n < 0 || n > tape.length()) {
            return false;
        }
        tape.setLength(n);
        return true;
    }

    private String use() {
        String text = tape.toString();
        tape.setLength(0);
        return text;
    }

    static final class Wrong extends RuntimeException {
        private static final long serialVersionUID = 1L;
        final int at;

        Wrong(int at) {
            this.at = at;
        }
    }

    /** Reads a text thing by thing. */
    static final class Reader {
        static final Pattern THING = Pattern.compile("[a-z]+|[0-9]+|[^ ]", Pattern.DOTALL);
        final List<String> things = new ArrayList<>();
        final List<Integer> begins = new ArrayList<>();
        int at = 0;

        Reader(String text) {
            Matcher m = THING.matcher(text);
            while (m.find()) {
                things.add(m.group());
                begins.add(m.start());
            }
            things.add("");
            begins.add(text.length());
        }

        String peek() {
            return things.get(at);
        }

        boolean take(String thing) {
            if (!peek().equals(thing)) {
                return false;
            }
            at++;
            return true;
        }

        Wrong wrong() {
            return new Wrong(begins.get(at));
        }

        int oneOf(String... words) {
            int n = Arrays.asList(words).indexOf(peek());
            if (n < 0) {
                throw wrong();
            }
            at++;
            return n;
        }

        int number(int most) {
            if (!peek().matches("[0-9]{1,5}") || Integer.parseInt(peek()) > most) {
                throw wrong();
            }
            return Integer.parseInt(things.get(at++));
        }

        List<Line> text() {
            List<Line> lines = new ArrayList<>();
            if (things.size() == 1) {
                return lines;
            }
            do {
                if (lines.size() == 12) {
                    throw wrong();
                }
                lines.add(line());
            } while (take(";"));
            if (!peek().isEmpty()) {
                throw wrong();
            }
            return lines;
        }

        Line line() {
            String verb = peek();
            oneOf("fit", "chip", "owe", "look");
            int number = switch (verb) {
                case "fit" -> oneOf("plank", "knee", "mast", "rope");
                case "chip" -> number(1000);
                case "owe" -> number(99999);
                default -> number(100);
            };
            boolean asks = !verb.equals("look") && take("if");
            return new Line(verb, number, asks ? any(6) : f -> true);
        }

        Predicate<Facts> any(int left) {
            Predicate<Facts> c = all(left);
            while (take("or")) {
                c = c.or(all(left));
            }
            return c;
        }

        Predicate<Facts> all(int left) {
            Predicate<Facts> c = atom(left);
            while (take("and")) {
                c = c.and(atom(left));
            }
            return c;
        }

        Predicate<Facts> atom(int left) {
            String word = peek();
            if ((word.equals("not") || word.equals("(")) && left == 0) {
                throw wrong();
            }
            if (take("not")) {
                return atom(left - 1).negate();
            }
            if (take("(")) {
                Predicate<Facts> c = any(left - 1);
                oneOf(")");
                return c;
            }
            oneOf("oak", "elm", "fir", "hired", "seen", "dry", "rot", "thick", "long", "age", "gangs");
            switch (word) {
                case "oak":
                case "elm":
                case "fir":
                    return f -> f.sort.equals(word);
                case "hired":
                    return f -> f.hired;
                case "seen":
                    return f -> f.seen;
                default:
                    boolean less = oneOf("<", ">") == 0;
                    int number = number(99999);
                    return f -> less ? f.of(word) < number : f.of(word) > number;
            }
        }
    }

    private List<Line> read() {
        try {
            List<Line> lines = new Reader(use()).text();
            fault = NONE;
            return lines;
        } catch (Wrong w) {
            fault = w.at;
            throw new IllegalArgumentException();
        }
    }

    private List<Line> law(int day) {
        Warrant best = null;
        for (Warrant w : s.warrants) {
            if (w.day <= day && (best == null || w.day >= best.day)) {
                best = w;
            }
        }
        return best == null ? List.of() : best.lines;
    }

    public int warrant(int day) {
        if (!in(day, s.day, 4000)) {
            use();
            throw new IllegalArgumentException();
        }
        List<Line> lines = read();
        room(s.warrants.size() < 10);
        s.warrants.add(new Warrant(day, lines));
        return lines.size();
    }

    public int fault() {
        return fault;
    }

    // ---- trees and pieces

    public void road(int wood, int days) {
        index(in(wood, 0, 5));
        number(in(days, 0, 60));
        s.road[wood] = days;
    }

    public int tree(int wood, int sort, int length, int thick, int bend, int heart) {
        index(in(wood, 0, 5));
        number(in(sort, 0, 2) && in(length, 5, 100) && in(thick, 5, 60) && in(bend, -9, 9) && in(heart, 0, 9));
        room(s.trees.size() < 60);
        Tree t = new Tree();
        t.wood = wood;
        t.sort = sort;
        t.length = length;
        t.thick = thick;
        t.bend = bend;
        t.heart = heart;
        s.trees.add(t);
        return s.trees.size() - 1;
    }

    private void does() {
        undo = s.copy();
    }

    private int put(Piece p) {
        s.pieces.add(p);
        return s.pieces.size() - 1;
    }

    public int fell(int tree, int kind) {
        index(tree, s.trees);
        number(in(kind, 0, 2));
        if (s.trees.get(tree).felled || s.pieces.size() == 120) {
            return NONE;
        }
        does();
        Tree t = s.trees.get(tree);
        t.felled = true;
        Piece p = t.as(kind);
        p.tree = tree;
        p.from = s.day;
        p.comes = s.day + s.road[t.wood];
        p.place = s.road[t.wood] == 0 ? 1 : 0;
        return put(p);
    }

    public int buy(int kind, int sort, int length, int thick, int bend) {
        number(in(kind, 0, 3) && in(sort, 0, 2) && in(length, 5, 100) && in(thick, 1, 60) && bendOk(kind, bend));
        number(kind != 3 || sort == 0);
        room(s.pieces.size() < 120);
        does();
        Piece p = new Piece();
        p.kind = kind;
        p.sort = sort;
        p.length = length;
        p.thick = thick;
        p.bend = bend;
        p.from = s.day;
        p.place = 1;
        return put(p);
    }

    public void sheds(int n) {
        number(in(n, 1, 120));
        s.shedRoom = n;
    }

    private List<Piece> at(int place) {
        return s.pieces.stream().filter(p -> p.place == place).toList();
    }

    public boolean shed(int piece) {
        index(piece, s.pieces);
        if (s.pieces.get(piece).place != 1 || at(2).size() >= s.shedRoom) {
            return false;
        }
        does();
        s.pieces.get(piece).place = 2;
        s.pieces.get(piece).shedDay = s.day;
        return true;
    }

    public int piece(int piece, int what) {
        index(piece, s.pieces);
        Piece p = s.pieces.get(piece);
        int[] all = {p.kind, p.place, p.length, p.thick, p.bend, p.sort, p.dry, p.rot, p.shows, p.tree, p.from, p.ship,
            p.need, p.bad ? 1 : 0, p.shedDay};
        if (!in(what, 0, 14)) {
            throw new NoSuchElementException();
        }
        return all[what];
    }

    public int look(int piece) {
        index(piece, s.pieces);
        Piece p = s.pieces.get(piece);
        if (!in(p.place, 1, 3)) {
            return NONE;
        }
        int limit = 100;
        for (Line line : law(s.day)) {
            limit = line.verb.equals("look") ? line.number : limit;
        }
        p.looked = true;
        p.shows = Math.min(limit, Math.max(0, p.rot - p.hearted));
        return p.shows;
    }

    // ---- what may go in

    private int gangsOn(int ship) {
        return (int) s.gangShips.stream().filter(g -> g == ship).count();
    }

    private int whyBy(List<Line> law, Piece p, int ship) {
        Facts f = new Facts();
        f.sort = p.kind == 3 ? "" : List.of("oak", "elm", "fir").get(p.sort);
        f.hired = s.ships.get(ship).hired;
        f.seen = p.looked;
        f.dry = p.dry;
        f.rot = p.shows;
        f.thick = p.thick;
        f.length = p.length;
        f.age = s.day - p.from;
        f.gangs = gangsOn(ship);
        for (int n = 0; n < law.size(); n++) {
            Line line = law.get(n);
            if (line.verb.equals("fit") && line.number == p.kind && line.condition.test(f)) {
                return n;
            }
        }
        return NONE;
    }

    public boolean may(int piece, int ship, int day) {
        return why(piece, ship, day) >= 0;
    }

    public int why(int piece, int ship, int day) {
        index(piece, s.pieces);
        index(ship, s.ships);
        return whyBy(law(day), s.pieces.get(piece), ship);
    }

    public int beside(int ship, boolean other) {
        String kept = use();
        index(ship, s.ships);
        tape.append(kept);
        List<Line> text = read();
        int count = 0;
        for (Piece p : at(2)) {
            boolean now = whyBy(law(s.day), p, ship) >= 0;
            boolean then = whyBy(text, p, ship) >= 0;
            count += now != then && now == other ? 1 : 0;
        }
        return count;
    }

    // ---- ships

    public int ship(int deep, int work, boolean hired) {
        number(in(deep, 1, 40) && in(work, 0, 5000));
        room(s.ships.size() < 8);
        Ship x = new Ship();
        x.deep = deep;
        x.work = work;
        x.hired = hired;
        s.ships.add(x);
        return s.ships.size() - 1;
    }

    public int need(int ship, int kind, int length, int thick, int bend) {
        index(ship, s.ships);
        number(in(kind, 0, 3) && in(length, 1, 300) && in(thick, 1, 60) && bendOk(kind, bend));
        Ship x = s.ships.get(ship);
        if (x.state != 0) {
            throw new IllegalStateException();
        }
        if (x.needs.size() == 8) {
            return NONE;
        }
        x.needs.add(new int[] {kind, length, thick, bend});
        return x.needs.size() - 1;
    }

    public void slips(int n) {
        number(in(n, 1, 8));
        s.slips = n;
    }

    private long onSlips() {
        return s.ships.stream().filter(x -> x.state == 1).count();
    }

    public boolean lay(int ship) {
        index(ship, s.ships);
        if (s.ships.get(ship).state != 0 || onSlips() >= s.slips) {
            return false;
        }
        s.ships.get(ship).state = 1;
        return true;
    }

    private Piece in(int ship, int need) {
        return s.pieces.stream().filter(p -> p.ship == ship && p.need == need).findFirst().orElse(null);
    }

    private List<Piece> in(int ship) {
        return s.pieces.stream().filter(p -> p.ship == ship).toList();
    }

    private static boolean enough(int[] need, Piece p) {
        boolean bent = p.kind != 1 || in(p.bend, need[3] - 1, need[3] + 1);
        return p.kind == need[0] && p.length >= need[1] && p.thick >= need[2] && bent;
    }

    private static int spill(int[] need, Piece p) {
        return p.length - need[1] + p.thick - need[2];
    }

    private boolean fittable(int ship) {
        return s.ships.get(ship).state == 1 || s.ships.get(ship).state == 3;
    }

    public boolean fit(int ship, int need, int piece, boolean force) {
        index(ship, s.ships);
        index(need, s.ships.get(ship).needs);
        index(piece, s.pieces);
        Piece p = s.pieces.get(piece);
        boolean may = may(piece, ship, s.day);
        boolean right = p.place == 2 && enough(s.ships.get(ship).needs.get(need), p) && in(ship, need) == null;
        if (!fittable(ship) || !right || !may && !force) {
            return false;
        }
        does();
        p.place = 3;
        p.ship = ship;
        p.need = need;
        p.bad = !may;
        return true;
    }

    private void toPond(Piece p) {
        p.place = 1;
        p.ship = NONE;
        p.need = NONE;
        p.bad = false;
    }

    public int out(int ship, int need) {
        index(ship, s.ships);
        index(need, s.ships.get(ship).needs);
        Piece p = in(ship, need);
        if (p == null || !fittable(ship)) {
            return NONE;
        }
        does();
        toPond(p);
        return s.pieces.indexOf(p);
    }

    // ---- the least waste: all ways, those with the least numbers first

    private int[] way;
    private int wayCost;

    private void ways(List<List<int[]>> offers, int n, int cost, int[] taken) {
        if (way != null && cost >= wayCost) {
            return;
        }
        if (n == offers.size()) {
            way = taken.clone();
            wayCost = cost;
            return;
        }
        for (int[] offer : offers.get(n)) {
            boolean free = true;
            for (int m = 0; m < n; m++) {
                free &= taken[m] != offer[0];
            }
            if (free) {
                taken[n] = offer[0];
                ways(offers, n + 1, cost + offer[1], taken);
            }
        }
    }

    /** The numbers of the needs that are not fit. */
    private List<Integer> search(int ship, boolean trees) {
        Ship x = s.ships.get(ship);
        List<Integer> open = new ArrayList<>();
        List<List<int[]>> offers = new ArrayList<>();
        for (int n = 0; n < x.needs.size(); n++) {
            if (in(ship, n) != null) {
                continue;
            }
            open.add(n);
            int[] need = x.needs.get(n);
            List<int[]> offer = new ArrayList<>();
            for (int k = 0; k < (trees ? s.trees.size() : s.pieces.size()); k++) {
                Piece p = trees ? s.trees.get(k).as(need[0]) : s.pieces.get(k);
                boolean there = trees ? !s.trees.get(k).felled && need[0] != 3
                        : p.place == 2 && whyBy(law(s.day), p, ship) >= 0;
                if (there && enough(need, p)) {
                    offer.add(new int[] {k, spill(need, p)});
                }
            }
            offers.add(offer);
        }
        way = null;
        ways(offers, 0, 0, new int[offers.size()]);
        return open;
    }

    public int waste(int ship, boolean trees) {
        index(ship, s.ships);
        search(ship, trees);
        return way == null ? NONE : wayCost;
    }

    public int which(int ship, int need, boolean trees) {
        index(ship, s.ships);
        index(need, s.ships.get(ship).needs);
        int n = search(ship, trees).indexOf(need);
        return way == null || n < 0 ? NONE : way[n];
    }

    // ---- masts

    private List<Piece> masts8() {
        return s.pieces.stream().filter(p -> p.kind == 2 && (p.place == 1 || p.place == 2)).limit(8).toList();
    }

    private Piece join(List<Piece> masts, int set) {
        Piece made = null;
        for (int n = 0; n < masts.size(); n++) {
            Piece p = masts.get(n);
            if ((set & 1 << n) == 0) {
                continue;
            }
            if (made == null) {
                made = p.copy();
                made.place = 2;
                made.shows = 0;
                made.looked = false;
                made.hearted = 0;
                made.shedDay = s.day;
            } else {
                made.length += p.length - 4;
                made.thick = Math.min(made.thick, p.thick);
                made.dry = Math.min(made.dry, p.dry);
                made.rot = Math.max(made.rot, p.rot);
            }
        }
        return made;
    }

    public int masts(int ship, int need) {
        index(ship, s.ships);
        index(need, s.ships.get(ship).needs);
        int[] wants = s.ships.get(ship).needs.get(need);
        List<Piece> masts = masts8();
        int found = NONE;
        int least = 0;
        for (int set = 0; set < 1 << masts.size() && wants[0] == 2; set++) {
            if (Integer.bitCount(set) >= 2 && enough(wants, join(masts, set))) {
                int score = spill(wants, join(masts, set)) * 10 + Integer.bitCount(set);
                if (found == NONE || score < least) {
                    found = set;
                    least = score;
                }
            }
        }
        return found;
    }

    public int make(int ship, int need) {
        int set = masts(ship, need);
        if (set == NONE || s.pieces.size() == 120) {
            return NONE;
        }
        does();
        List<Piece> masts = masts8();
        Piece made = join(masts, set);
        for (int n = 0; n < masts.size(); n++) {
            if ((set & 1 << n) != 0) {
                masts.get(n).place = 5;
            }
        }
        return put(made);
    }

    public boolean launch(int ship) {
        index(ship, s.ships);
        Ship x = s.ships.get(ship);
        if (x.state != 1 || x.work > 0 || in(ship).size() != x.needs.size()) {
            return false;
        }
        does();
        x.state = 2;
        x.launched = s.day;
        return true;
    }

    // ---- docks

    public int dock(int sill) {
        number(in(sill, -20, 40));
        room(s.sills.size() < 4);
        s.sills.add(sill);
        return s.sills.size() - 1;
    }

    public void tide(int at, int level) {
        number(in(at, 0, 27) && in(level, 0, 40));
        s.tides[at] = level;
    }

    private boolean passes(int ship, int dock, long day) {
        return s.tides[(int) (day % 28)] + s.sills.get(dock) >= s.ships.get(ship).deep;
    }

    public boolean moor(int ship, int dock, boolean in) {
        index(ship, s.ships);
        index(dock, s.sills);
        Ship x = s.ships.get(ship);
        boolean free = s.ships.stream().noneMatch(o -> o.state == 3 && o.dock == dock);
        boolean can = in ? x.state == 2 && free : x.state == 3 && x.dock == dock;
        if (!can || !passes(ship, dock, s.day)) {
            return false;
        }
        does();
        x.state = in ? 3 : 2;
        x.dock = in ? dock : NONE;
        return true;
    }

    public boolean sail(int ship, boolean out) {
        index(ship, s.ships);
        Ship x = s.ships.get(ship);
        if (x.state != (out ? 2 : 4) || out && x.open) {
            return false;
        }
        does();
        x.state = out ? 4 : 2;
        return true;
    }

    private int worst(int ship) {
        return in(ship).stream().mapToInt(p -> p.rot).max().orElse(0);
    }

    public boolean shut(int ship) {
        index(ship, s.ships);
        Ship x = s.ships.get(ship);
        if (!x.open || x.state != 3 || worst(ship) > 80) {
            return false;
        }
        x.open = false;
        return true;
    }

    public int breaks(int ship) {
        index(ship, s.ships);
        Ship x = s.ships.get(ship);
        if (!in(x.state, 1, 3)) {
            return NONE;
        }
        List<Piece> pieces = in(ship);
        pieces.forEach(this::toPond);
        x.state = 5;
        x.dock = NONE;
        return pieces.size();
    }

    public int led(int ship, int what) {
        index(ship, s.ships);
        Ship x = s.ships.get(ship);
        int bad = (int) in(ship).stream().filter(p -> p.bad).count();
        int[] all = {x.state, x.work, x.needs.size(), in(ship).size(), x.dock, x.launched, x.open ? 1 : 0, x.owes, bad,
            x.deep, worst(ship), gangsOn(ship)};
        if (!in(what, 0, 11)) {
            throw new NoSuchElementException();
        }
        return all[what];
    }

    public int lastTide(int ship, int dock, int day) {
        index(ship, s.ships);
        index(dock, s.sills);
        for (long d = day; d >= s.day && d > (long) day - 100; d--) {
            if (passes(ship, dock, d)) {
                return (int) d;
            }
        }
        return NONE;
    }

    public int docks(int dock, int set, int days) {
        index(dock, s.sills);
        number(set >= 0 && set < 1 << s.ships.size());
        number(Integer.bitCount(set) <= 4);
        number(in(days, 1, 60));
        for (int x = 0; x < s.ships.size(); x++) {
            if ((set & 1 << x) != 0 && s.ships.get(x).state != 2) {
                return NONE;
            }
        }
        int least = orders(dock, set, days, 0);
        return least > 300 ? NONE : least;
    }

    private int orders(int dock, int set, int days, int from) {
        if (set == 0 || from > 300) {
            return from;
        }
        int least = 1000;
        for (int x = 0; x < s.ships.size(); x++) {
            if ((set & 1 << x) == 0) {
                continue;
            }
            int in = from;
            while (in <= 300 && !passes(x, dock, s.day + in)) {
                in++;
            }
            int out = in + days;
            while (out <= 300 && !passes(x, dock, s.day + out)) {
                out++;
            }
            least = Math.min(least, orders(dock, set & ~(1 << x), days, out));
        }
        return least;
    }

    // ---- gangs and days

    public int gang(int strength) {
        number(in(strength, 1, 40));
        room(s.strengths.size() < 8);
        s.strengths.add(strength);
        s.gangShips.add(NONE);
        return s.strengths.size() - 1;
    }

    public boolean works(int gang, int ship) {
        index(gang, s.strengths);
        index(ship == NONE || ship >= 0 && ship < s.ships.size());
        return s.gangShips.set(gang, ship) != ship;
    }

    public int gangs() {
        List<Ship> ships = s.ships.stream().filter(x -> x.state == 1 && x.work > 0).limit(4).toList();
        int least = share(ships, new int[ships.size()], 0);
        return least == Integer.MAX_VALUE ? NONE : least;
    }

    private int share(List<Ship> ships, int[] strong, int gang) {
        if (gang < s.strengths.size() && gang < 6 && !ships.isEmpty()) {
            int least = Integer.MAX_VALUE;
            for (int x = 0; x < strong.length; x++) {
                strong[x] += s.strengths.get(gang);
                least = Math.min(least, share(ships, strong, gang + 1));
                strong[x] -= s.strengths.get(gang);
            }
            return least;
        }
        int days = 0;
        for (int x = 0; x < strong.length; x++) {
            if (strong[x] == 0) {
                return Integer.MAX_VALUE;
            }
            int left = ships.get(x).work;
            int day = 0;
            while (left > 0) {
                left -= strong[x];
                day++;
            }
            days = Math.max(days, day);
        }
        return days;
    }

    public int days(int n) {
        number(in(n, 0, 200));
        if (n > 0 && s.day < 4000) {
            does();
        }
        for (int d = 0; d < n && s.day < 4000; d++) {
            aDay();
        }
        return s.day;
    }

    private void aDay() {
        s.day++;
        for (Piece p : at(0)) {
            if (p.comes <= s.day) {
                p.place = 1;
            }
        }
        s.pieces.stream().filter(p -> in(p.place, 1, 3) && p.kind != 3).forEach(this::rots);
        for (int x = 0; x < s.ships.size(); x++) {
            if (s.ships.get(x).state == 4 && worst(x) > 80) {
                opens(x);
            }
        }
        for (int g = 0; g < s.strengths.size(); g++) {
            int x = s.gangShips.get(g);
            if (x == NONE) {
                continue;
            }
            Ship ship = s.ships.get(x);
            if (fittable(x) && in(x).size() == ship.needs.size()) {
                ship.work = Math.max(0, ship.work - s.strengths.get(g));
            }
            if (in(ship.state, 1, 3)) {
                Facts f = new Facts();
                f.hired = ship.hired;
                f.gangs = gangsOn(x);
                chips((int) sum("chip", f));
            }
        }
    }

    private void rots(Piece p) {
        int heart = p.tree == NONE ? 0 : s.trees.get(p.tree).heart / 2;
        for (int n = 0; n < heart && s.day % 40 == 0 && p.rot < 100; n++) {
            p.rot++;
            p.hearted++;
        }
        if (p.place == 2) {
            p.dry++;
            p.rot += s.day % 10 == 0 && p.dry < 90 ? 1 : 0;
        } else if (p.place == 1) {
            p.rot += s.day % 5 == 0 && p.sort == 2 ? 1 : 0;
        } else if (p.dry < new int[] {100, 60, 40}[p.sort] || s.day % 20 == 0) {
            p.rot += 1;
        }
        p.rot = Math.min(100, p.rot);
        if (p.rot == 100 && p.place < 3) {
            p.place = 6;
        }
    }

    private void opens(int x) {
        Ship ship = s.ships.get(x);
        ship.state = 2;
        ship.open = true;
        s.opened++;
        if (ship.hired) {
            Facts f = new Facts();
            f.hired = true;
            f.age = s.day - ship.launched;
            f.dry = in(x).stream().mapToInt(p -> p.dry).min().orElse(0);
            f.rot = worst(x);
            f.gangs = gangsOn(x);
            ship.owes = (int) Math.min(2000000000L, ship.owes + sum("owe", f));
        }
    }

    private long sum(String verb, Facts f) {
        return law(s.day).stream().filter(l -> l.verb.equals(verb) && l.condition.test(f)).mapToLong(l -> l.number).sum();
    }

    private void chips(int more) {
        for (int n = 0; n < more; n++) {
            s.chips++;
            if (s.chips % 100 == 0) {
                at(2).stream().filter(p -> p.kind == 0).findFirst().ifPresent(p -> p.place = 4);
            }
        }
    }

    // ---- of one tree, and war

    private List<Piece> ofOneTree(int piece) {
        Piece it = s.pieces.get(piece);
        return it.tree == NONE ? List.of(it) : s.pieces.stream().filter(p -> p.tree == it.tree).toList();
    }

    public int ofTree(int piece, boolean ships) {
        index(piece, s.pieces);
        int bits = 0;
        for (Piece p : ofOneTree(piece)) {
            bits |= p.ship == NONE ? 0 : 1 << p.ship;
        }
        return ships ? bits : ofOneTree(piece).size();
    }

    public int fellows(int piece) {
        index(piece, s.pieces);
        int day = s.pieces.get(piece).shedDay;
        if (day == NONE) {
            return 0;
        }
        return (int) s.pieces.stream().filter(p -> p.shedDay != NONE && in(p.shedDay, day - 7, day + 7)).count();
    }

    public int war() {
        List<Piece> there = s.pieces.stream().filter(p -> p.place == 2 || p.ship != NONE && s.ships.get(p.ship).state == 1)
                .toList();
        int afloat = 0;
        int slips = 0;
        for (int x = 0; x < s.ships.size(); x++) {
            int state = s.ships.get(x).state;
            afloat |= in(state, 2, 4) ? 1 << x : 0;
            slips |= state == 1 ? 1 << x : 0;
        }
        int best = 0;
        for (int set = 0; set <= slips; set++) {
            boolean more = Integer.bitCount(set) > Integer.bitCount(best);
            if ((set & ~slips) == 0 && more && allSeated(set, there)) {
                best = set;
            }
        }
        return best | afloat;
    }

    /** Hall's condition: every set of needs has as many pieces that are enough for one of them. */
    private boolean allSeated(int set, List<Piece> there) {
        List<int[]> needs = new ArrayList<>();
        for (int x = 0; x < s.ships.size(); x++) {
            if ((set & 1 << x) != 0) {
                needs.addAll(s.ships.get(x).needs);
            }
        }
        for (int some = 0; some < 1 << needs.size(); some++) {
            int pieces = 0;
            for (Piece p : there) {
                boolean serves = false;
                for (int n = 0; n < needs.size() && !serves; n++) {
                    serves = (some & 1 << n) != 0 && enough(needs.get(n), p);
                }
                pieces += serves ? 1 : 0;
            }
            if (pieces < Integer.bitCount(some)) {
                return false;
            }
        }
        return true;
    }

    // ---- books and plan

    public int enter(int book, int day, int n, int hand) {
        number(in(book, 0, 1) && in(day, 0, s.day) && in(n, -10000, 10000) && n != 0 && in(hand, 0, 9));
        if (s.entries.size() == 100) {
            return NONE;
        }
        s.entries.add(new int[] {book, day, n, hand});
        return s.entries.size();
    }

    public int muster(int day, int n) {
        number(in(day, 0, s.day) && in(n, 0, 100000));
        if (s.musters.size() == 20) {
            return NONE;
        }
        s.musters.add(new int[] {day, n, s.musters.size()});
        return s.musters.size();
    }

    /** The musters by their day, then as they came. */
    private List<int[]> byDay() {
        List<int[]> all = new ArrayList<>(s.musters);
        all.sort((a, b) -> a[0] - b[0]);
        return all;
    }

    private int falsePlace(int book) {
        List<int[]> all = byDay();
        for (int m = 0; m < all.size(); m++) {
            int sum = 0;
            for (int[] e : s.entries) {
                sum += e[0] == book && e[1] <= all.get(m)[0] ? e[2] : 0;
            }
            if (sum != all.get(m)[1]) {
                return m;
            }
        }
        return NONE;
    }

    public int wrong(int book) {
        number(in(book, 0, 1));
        return falsePlace(book) == NONE ? NONE : byDay().get(falsePlace(book))[2];
    }

    public int hand(int book) {
        number(in(book, 0, 1));
        int m = falsePlace(book);
        int best = NONE;
        int most = 0;
        for (int hand = 0; hand <= 9 && m != NONE; hand++) {
            int units = 0;
            for (int[] e : s.entries) {
                boolean behind = m == 0 || e[1] > byDay().get(m - 1)[0];
                boolean there = e[0] == book && e[3] == hand && behind && e[1] <= byDay().get(m)[0];
                units += there ? Math.abs(e[2]) : 0;
            }
            if (units > most) {
                most = units;
                best = hand;
            }
        }
        return best;
    }

    public int choice(int cost, int year, int ships, int later) {
        number(in(cost, 0, 100000) && in(year, 0, 9) && in(ships, 0, 9) && in(later, 0, 9));
        if (s.choices.size() == 8) {
            return NONE;
        }
        s.choices.add(new int[] {cost, year, ships, later});
        return s.choices.size();
    }

    public void coin(int row, int year, int n) {
        number(in(row, 0, 2) && in(year, 0, 9) && in(n, 0, 100000));
        s.coin[row][year] = n;
    }

    public boolean paid(int set) {
        for (int[] row : s.coin) {
            for (int year = 0; year < 10; year++) {
                int left = Arrays.stream(row).limit(year + 1).sum();
                for (int n = 0; n < s.choices.size(); n++) {
                    left -= (set & 1 << n) != 0 && s.choices.get(n)[1] <= year ? s.choices.get(n)[0] : 0;
                }
                if (left < 0) {
                    return false;
                }
            }
        }
        return true;
    }

    public int best(int year) {
        int best = 0;
        long bestScore = Long.MIN_VALUE;
        for (int set = 0; set < 1 << s.choices.size(); set++) {
            long score = 0;
            for (int n = 0; n < s.choices.size(); n++) {
                int[] c = s.choices.get(n);
                if ((set & 1 << n) != 0) {
                    score += (c[1] + c[3] <= year ? c[2] * 1000000L : 0) - c[0];
                }
            }
            if (paid(set) && score > bestScore) {
                best = set;
                bestScore = score;
            }
        }
        return best;
    }

    // ---- what was

    public boolean undo() {
        if (undo == null) {
            return false;
        }
        s = undo;
        undo = null;
        return true;
    }

    public void keep() {
        image = s.copy();
    }

    public boolean back() {
        if (image == null) {
            return false;
        }
        s = image.copy();
        undo = null;
        return true;
    }

    public int count(int what) {
        if (in(what, 4, 10)) {
            return at(what - 4).size();
        }
        return switch (what) {
            case 0 -> s.day;
            case 1 -> s.trees.size();
            case 2 -> (int) s.trees.stream().filter(t -> !t.felled).count();
            case 3 -> s.pieces.size();
            case 11 -> s.ships.size();
            case 12 -> (int) onSlips();
            case 13 -> s.sills.size();
            case 14 -> s.strengths.size();
            case 15 -> s.chips;
            case 16 -> s.warrants.size();
            case 17 -> law(s.day).size();
            case 18 -> s.opened;
            default -> NONE;
        };
    }
}
