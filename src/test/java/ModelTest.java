import java.lang.reflect.InvocationTargetException;
import java.lang.reflect.Method;
import java.util.ArrayList;
import java.util.HashMap;
import java.util.List;
import java.util.Map;
import java.util.Random;

/** Runs of chance calls (always the same ones), each asked of OakYard and of PlainYard: both must answer alike. */
final class ModelTest {
    private static final String[] CALLS = {"road 1", "tree 4", "fell 5", "buy 7", "sheds 1", "shed 9", "piece 2", "look 4",
        "text 5", "may 3", "why 3", "ship 2", "need 6", "slips 1", "lay 4", "fit 20", "out 3", "waste 3", "which 4",
        "masts 3", "make 2", "launch 4", "dock 2", "tide 4", "moor 8", "sail 5", "shut 3", "breaks 1", "led 3",
        "lastTide 3", "docks 3", "gang 2", "works 4", "gangs 2", "days 9", "ofTree 2", "fellows 2", "war 2", "enter 4",
        "muster 2", "wrong 2", "hand 2", "choice 2", "coin 3", "paid 2", "best 2", "undo 2", "keep 1", "back 1", "voyage 6", "count 1",
        "feed 1", "end 1", "fault 1"};

    private final Map<String, Method> oak = methods(OakYard.class);
    private final Map<String, Method> plain = methods(PlainYard.class);
    private final Map<String, Integer> did = new HashMap<>();
    private final List<String> deck = new ArrayList<>();
    private OakYard a;
    private PlainYard b;
    private Random r;
    private final StringBuilder run = new StringBuilder();
    private boolean same;

    public static void main(String[] args) {
        int runs = args.length > 0 ? Integer.parseInt(args[0]) : 300;
        int from = args.length > 1 ? Integer.parseInt(args[1]) : 0;
        ModelTest test = new ModelTest();
        for (String call : CALLS) {
            String[] parts = call.split(" ");
            for (int n = 0; n < Integer.parseInt(parts[1]); n++) {
                test.deck.add(parts[0]);
            }
        }
        int wrong = 0;
        for (int n = from; n < from + runs && wrong < 3; n++) {
            wrong += test.runs(n) ? 0 : 1;
        }
        System.out.println(runs + " runs of chance calls, " + wrong + " wrong");
        if (args.length > 0) {
            test.did.entrySet().stream().sorted(Map.Entry.comparingByKey()).forEach(System.out::println);
        }
        System.exit(wrong > 0 ? 1 : 0);
    }

    private static Map<String, Method> methods(Class<?> of) {
        Map<String, Method> methods = new HashMap<>();
        for (Method m : of.getDeclaredMethods()) {
            if (java.lang.reflect.Modifier.isPublic(m.getModifiers())) {
                methods.put(m.getName(), m);
            }
        }
        return methods;
    }

    private boolean runs(int seed) {
        a = new OakYard();
        b = new PlainYard();
        r = new Random(seed);
        run.setLength(0);
        same = true;
        if (seed % 3 == 0) {
            beginWar();
        }
        begin();
        for (int n = 0; n < 450 && same; n++) {
            chanceCall(deck.get(r.nextInt(deck.size())));
            if (n % 25 == 24) {
                compareAll();
            }
        }
        for (int what = 0; what <= 18; what++) {
            did.merge("ended with count " + what, b.count(what), Integer::sum);
        }
        if (!same) {
            System.out.println("run " + seed + ":\n" + run);
        }
        return same;
    }

    /** A yard in which much can be done. */
    private void begin() {
        int style = r.nextInt(4);
        for (int n = 0; n < 5; n++) {
            chanceCall("tree");
            chanceCall("buy");
        }
        chanceCall("dock");
        chanceCall("ship");
        chanceCall("gang");
        chanceCall("need");
        if (style > 0) {
            text(r.nextBoolean() ? "fit plank;fit knee;fit mast;fit rope" : "fit plank if dry>3 or not oak;chip 70;fit mast");
            call("warrant", 0);
        }
        if (style > 1) {
            call("tide", r.nextInt(28), 40);
            call("slips", 5);
            call("sheds", 60);
        }
        if (style > 2) {
            call("road", 0, 0);
        }
    }

    /** A yard whose ships on slips want more than the shed has. */
    private void beginWar() {
        call("slips", 8);
        call("sheds", 120);
        int ships = 3 + r.nextInt(4);
        for (int x = 0; x < ships; x++) {
            call("ship", 5, 1, flip());
            int needs = 1 + r.nextInt(ships > 4 ? 2 : 4);
            for (int n = 0; n < needs; n++) {
                int kind = r.nextInt(3) / 2;
                call("need", x, kind, 1 + r.nextInt(12), 1 + r.nextInt(12), kind * (r.nextInt(5) - 2));
            }
            call("lay", x);
        }
        for (int p = 0; p < 4 + r.nextInt(9); p++) {
            int kind = r.nextInt(3) / 2;
            call("buy", kind, r.nextInt(3), 5 + r.nextInt(10), 3 + r.nextInt(10), kind * (r.nextInt(5) - 2));
            call("shed", p);
            if (r.nextInt(3) == 0) {
                int ship = r.nextInt(ships);
                call("fit", ship, r.nextInt(b.led(ship, 2)), p, true);
            }
            if (needsOnSlips() <= 12) {
                call("war");
            }
        }
    }

    private void compareAll() {
        for (int what = 0; what <= 18; what++) {
            call("count", what);
        }
        call("fault");
        for (int p = 0; p < b.count(3) && same; p++) {
            for (int what = 0; what <= 14; what++) {
                call("piece", p, what);
            }
        }
        for (int x = 0; x < b.count(11) && same; x++) {
            for (int what = 0; what <= 11; what++) {
                call("led", x, what);
            }
        }
    }

    // ---- one call of both

    private void call(String name, Object... args) {
        if (!same) {
            return;
        }
        String got = ask(oak.get(name), a, args);
        String due = ask(plain.get(name), b, args);
        if (!name.equals("piece") && !name.equals("led") && !name.equals("count") || !got.equals(due)) {
            run.append(name).append(java.util.Arrays.toString(args)).append(" -> ").append(got).append('\n');
        }
        did.merge(name + (got.startsWith("throws") ? " throws" : got.equals("-1") || got.equals("false") ? " none" : ""), 1,
                Integer::sum);
        if (!got.equals(due)) {
            run.append("due is ").append(due).append('\n');
            same = false;
        }
    }

    private static String ask(Method method, Object of, Object[] args) {
        try {
            return String.valueOf(method.invoke(of, args));
        } catch (InvocationTargetException e) {
            StackTraceElement where = e.getCause().getStackTrace()[0];
            boolean own = where.getClassName().startsWith("OakYard") || where.getClassName().startsWith("PlainYard");
            return "throws " + e.getCause().getClass().getSimpleName() + (own && e.getCause().getMessage() == null ? "" : "!");
        } catch (IllegalAccessException e) {
            throw new AssertionError(e);
        }
    }

    // ---- chance arguments

    /** Mostly a to b, sometimes just beside it, seldom anything. */
    private int pick(int least, int most) {
        int luck = r.nextInt(200);
        if (luck == 0) {
            return r.nextInt();
        }
        if (luck <= 2) {
            return least - 1;
        }
        if (luck <= 4 || most < least) {
            return most + 1;
        }
        return least + r.nextInt(most - least + 1);
    }

    private int tree() {
        return pick(0, b.count(1) - 1);
    }

    private int piece() {
        return pick(0, b.count(3) - 1);
    }

    private int ship() {
        return pick(0, b.count(11) - 1);
    }

    private int need(int ship) {
        return pick(0, ship >= 0 && ship < b.count(11) ? b.led(ship, 2) - 1 : 0);
    }

    private int day() {
        return r.nextInt(5) > 0 ? b.count(0) + r.nextInt(6) - 1 : pick(0, 4000);
    }

    private int past() {
        return r.nextInt(9) == 0 ? day() : r.nextInt(b.count(0) + 1);
    }

    private boolean flip() {
        return r.nextBoolean();
    }

    private int openNeeds(int ship) {
        return ship >= 0 && ship < b.count(11) ? b.led(ship, 2) - b.led(ship, 3) : 0;
    }

    private int needsOnSlips() {
        int needs = 0;
        for (int x = 0; x < b.count(11); x++) {
            needs += b.led(x, 0) == 1 ? b.led(x, 2) : 0;
        }
        return needs;
    }

    private void chanceCall(String name) {
        int ship = ship();
        switch (name) {
            case "road" -> call(name, pick(0, 5), r.nextInt(3) > 0 ? pick(0, 5) : pick(0, 60));
            case "tree" -> call(name, pick(0, 5), pick(0, 2), pick(5, r.nextBoolean() ? 30 : 100), pick(5, 30), pick(-9, 9),
                    pick(0, 9));
            case "fell" -> call(name, tree(), pick(0, 2));
            case "buy" -> buy();
            case "sheds" -> call(name, pick(1, r.nextBoolean() ? 10 : 120));
            case "shed", "look", "fellows" -> call(name, piece());
            case "piece" -> call(name, piece(), pick(0, 14));
            case "text" -> chanceText();
            case "may", "why" -> call(name, piece(), ship, day());
            case "ship" -> ships();
            case "need" -> needs(ship);
            case "slips" -> call(name, pick(1, 8));
            case "lay" -> call(name, shipIn(0, ship));
            case "launch" -> call(name, shipIn(1, ship));
            case "shut" -> call(name, shipIn(3, ship));
            case "breaks" -> call(name, ship);
            case "voyage" -> voyage(ship);
            case "fit" -> fits(ship);
            case "out", "masts", "make" -> call(name, ship, need(ship));
            case "waste" -> call(name, openNeeds(ship) < 6 ? ship : -1, flip());
            case "which" -> call(name, openNeeds(ship) < 6 ? ship : -1, need(ship), flip());
            case "dock" -> call(name, r.nextBoolean() ? pick(0, 12) : pick(-20, 40));
            case "tide" -> call(name, pick(0, 27), pick(0, 40));
            case "moor" -> moors(ship);
            case "sail" -> call(name, shipIn(r.nextInt(3) > 0 ? 2 : 4, ship), r.nextInt(4) > 0);
            case "led" -> call(name, ship, pick(0, 11));
            case "lastTide" -> call(name, ship, pick(0, b.count(13) - 1), r.nextInt(9) == 0 ? Integer.MAX_VALUE : day() + 20);
            case "docks" -> call(name, pick(0, b.count(13) - 1), afloat(), pick(1, 60));
            case "gang" -> call(name, pick(1, r.nextBoolean() ? 5 : 40));
            case "works" -> call(name, pick(0, b.count(14) - 1), r.nextInt(6) == 0 ? OakYard.NONE : ship);
            case "days" -> call(name, r.nextInt(4) > 0 ? pick(0, 12) : pick(0, 200));
            case "ofTree" -> call(name, piece(), flip());
            case "war" -> call(needsOnSlips() <= 9 ? "war" : "gangs");
            default -> chanceCallOfBooks(name);
        }
    }

    private void chanceCallOfBooks(String name) {
        switch (name) {
            case "enter" -> call(name, pick(0, 1), past(), pick(-3, 6) * (r.nextInt(9) == 0 ? 1700 : 1), pick(0, 9));
            case "muster" -> call(name, past(), pick(0, 9));
            case "wrong", "hand" -> call(name, pick(0, 1));
            case "choice" -> call(name, pick(0, 9) * (r.nextInt(5) == 0 ? 10000 : 1), pick(0, 9), pick(0, 9), pick(0, 9));
            case "coin" -> call(name, pick(0, 2), pick(0, 9), r.nextInt(3) == 0 ? pick(0, 100000) : pick(0, 12));
            case "paid" -> call(name, r.nextInt(4) == 0 ? r.nextInt() : pick(0, 31));
            case "best" -> call(name, r.nextInt(5) == 0 ? r.nextInt() : pick(0, 18));
            case "count" -> call(name, pick(0, 18));
            case "feed" -> call(name, r.nextInt(), r.nextInt(), r.nextInt(), r.nextInt(), r.nextInt());
            case "end" -> call(name, r.nextInt(3) > 0 ? 0 : pick(0, 30));
            default -> call(name);
        }
    }

    /** A ship of a state, if there is one; else what comes. */
    private int shipIn(int state, int ship) {
        for (int n = 0; n < b.count(11); n++) {
            int x = (n + (ship & 7)) % b.count(11);
            if (b.led(x, 0) == state && r.nextInt(9) > 0) {
                return x;
            }
        }
        return ship;
    }

    private void moors(int ship) {
        boolean in = flip();
        int x = shipIn(in ? 2 : 3, ship);
        int dock = x >= 0 && x < b.count(11) && !in ? b.led(x, 4) : pick(0, b.count(13) - 1);
        call("moor", x, dock, in);
    }

    /** All that sends a ship to sea for long, as far as it can be done. */
    private void voyage(int ship) {
        if (ship < 0 || ship >= b.count(11) || b.led(ship, 2) > 5 || b.led(ship, 2) == 0) {
            return;
        }
        call("lay", ship);
        for (int need = 0; need < b.led(ship, 2); need++) {
            for (int p = 0; p < b.count(3) && b.led(ship, 3) <= need; p++) {
                if (b.piece(p, 1) == 1 || b.piece(p, 1) == 2) {
                    call("shed", p);
                    call("fit", ship, need, p, r.nextInt(5) > 0);
                }
            }
        }
        for (int g = 0; g < b.count(14); g++) {
            call("works", g, ship);
        }
        call("days", pick(0, 20));
        call("launch", ship);
        call("sail", ship, true);
        call("days", pick(50, 100));
    }

    private void buy() {
        int kind = pick(0, 3);
        call("buy", kind, kind == 3 ? 0 : pick(0, 2), pick(5, r.nextBoolean() ? 20 : 40), pick(1, 20), kind == 1 ? pick(-4, 4) : 0);
    }

    private void ships() {
        call("ship", r.nextBoolean() ? pick(1, 40) : pick(1, 5), r.nextInt(3) > 0 ? pick(0, 20) : 0, flip());
        int needs = r.nextInt(20) == 0 ? 9 : r.nextInt(5);
        for (int n = 0; n < needs; n++) {
            needs(b.count(11) - 1);
        }
    }

    private void needs(int ship) {
        int kind = pick(0, 3);
        int length = kind == 2 && r.nextBoolean() ? pick(20, 70) : pick(1, 15);
        call("need", ship, kind, length, pick(1, 12), kind == 1 ? pick(-4, 4) : 0);
    }

    /** Mostly a piece that may be right, for a ship that may be fit. */
    private void fits(int chance) {
        int ship = shipIn(r.nextInt(3) > 0 ? 1 : 3, chance);
        int need = need(ship);
        int piece = piece();
        boolean there = ship >= 0 && ship < b.count(11) && need >= 0 && need < b.led(ship, 2);
        if (there && openNeeds(ship) < 6 && r.nextInt(3) > 0) {
            int best = b.which(ship, need, false);
            piece = best == OakYard.NONE ? piece : best;
        } else if (b.count(3) > 0) {
            for (int n = 0; n < 20 && (piece < 0 || piece >= b.count(3) || b.piece(piece, 1) != 2); n++) {
                piece = piece();
            }
        }
        call("fit", ship, need, piece, r.nextInt(3) == 0);
    }

    private int afloat() {
        int set = 0;
        for (int x = 0; x < b.count(11); x++) {
            set |= b.led(x, 0) == 2 && r.nextInt(4) > 0 ? 1 << x : 0;
        }
        return r.nextInt(9) == 0 ? pick(0, 255) : set;
    }

    // ---- chance texts

    private void text(String text) {
        call("end", 0);
        for (int at = 0; at < text.length(); at += 20) {
            Object[] fives = new Object[5];
            for (int n = 0; n < 5; n++) {
                int number = 0;
                for (int k = at + 4 * n; k < at + 4 * n + 4; k++) {
                    number = number << 8 | (k < text.length() ? text.charAt(k) : 0);
                }
                fives[n] = number;
            }
            call("feed", fives);
        }
        call("end", text.length());
    }

    private void chanceText() {
        int lines = r.nextInt(20) == 0 ? 12 + r.nextInt(2) : r.nextInt(6);
        StringBuilder text = new StringBuilder();
        for (int n = 0; n < lines; n++) {
            text.append(n > 0 ? blanks() + ";" : "").append(blanks()).append(line());
        }
        if (text.length() > 0 && r.nextInt(4) == 0) {
            int at = r.nextInt(text.length());
            String signs = " ;()<>09az\t\u00e9";
            switch (r.nextInt(3)) {
                case 0 -> text.deleteCharAt(at);
                case 1 -> text.insert(at, signs.charAt(r.nextInt(signs.length())));
                default -> text.setLength(at);
            }
        }
        text.setLength(Math.min(400, text.length()));
        run.append("text '").append(text).append("'\n");
        text(text.toString());
        if (r.nextInt(3) == 0) {
            call("beside", ship(), flip());
        } else {
            call("warrant", r.nextInt(3) > 0 ? b.count(0) : day());
        }
    }

    private String blanks() {
        return r.nextInt(4) == 0 ? " " : "";
    }

    private String one(String... of) {
        return of[r.nextInt(of.length)];
    }

    private String line() {
        String verb = one("fit", "fit", "fit", "chip", "owe", "look");
        String line = switch (verb) {
            case "fit" -> "fit " + one("plank", "knee", "mast", "rope");
            case "chip" -> "chip" + blanks() + (r.nextInt(20) == 0 ? pick(0, 1000) & 0xffff : pick(0, 200) & 0xffff);
            case "owe" -> "owe " + (r.nextInt(3) == 0 ? pick(0, 99999) & 0xfffff : r.nextInt(50));
            default -> "look " + (pick(0, 100) & 0xfff);
        };
        boolean asks = r.nextBoolean() && !verb.equals("look") || r.nextInt(30) == 0;
        return asks ? line + " if " + any(3 + r.nextInt(2)) : line;
    }

    private String any(int deep) {
        String c = all(deep);
        for (int n = 0; n < 3 && r.nextInt(3) == 0; n++) {
            c += " or " + all(deep);
        }
        return c;
    }

    private String all(int deep) {
        String c = atom(deep);
        for (int n = 0; n < 3 && r.nextInt(3) == 0; n++) {
            c += " and " + atom(deep);
        }
        return c;
    }

    private String atom(int deep) {
        if (deep > 0 && r.nextInt(4) == 0) {
            return "not " + atom(deep - r.nextInt(2));
        }
        if (deep > 0 && r.nextInt(4) == 0) {
            return blanks() + "(" + any(deep - r.nextInt(2)) + ")";
        }
        if (r.nextBoolean()) {
            return one("oak", "elm", "fir", "hired", "seen");
        }
        String number = r.nextInt(3) > 0 ? "" + r.nextInt(40) : "" + (pick(0, 99999) & 0xfffff);
        return one("dry", "rot", "thick", "long", "age", "gangs") + blanks() + one("<", ">") + blanks() + number;
    }
}
