import java.util.Arrays;
import java.util.NoSuchElementException;

/**
 * A royal yard that builds ships of oak: the face of it. What a call asks is looked at here, in the order in which the
 * document tells the exceptions; what it does is done by the classes inside.
 */
public final class OakYard {
    public static final int NONE = -1;

    private static final int LAST_DAY = 4000;
    private static final int WOODS = 6;
    private static final int MOST_TREES = 60;
    private static final int MOST_PIECES = 120;
    private static final int MOST_THICK = 60;
    private static final int MOST_ROT = 100;
    private static final int MOST_SHIPS = 8;
    private static final int MOST_NEEDS = 8;
    private static final int MOST_DOCKS = 4;
    private static final int MOST_GANGS = 8;
    private static final int MOST_WARRANTS = 10;
    private static final int MOST_LINES = 12;
    private static final int MOST_DEEP_WITHIN = 6;
    private static final int TAPE_ROOM = 400;
    private static final int TIDES = 28;
    private static final int MOST_ENTRIES = 100;
    private static final int MOST_MUSTERS = 20;
    private static final int HANDS = 10;
    private static final int MOST_CHOICES = 8;
    private static final int ROWS = 3;
    private static final int YEARS = 10;
    private static final int MOST_COIN = 100000;
    private static final int MOST_OWED = 2000000000;
    private static final int DOCK_PLAN_DAYS = 300;

    private static final int OAK = 0;
    private static final int FIR = 2;

    private static final int PLANK = 0;
    private static final int KNEE = 1;
    private static final int MAST = 2;
    private static final int ROPE = 3;

    private static final int ON_ROAD = 0;
    private static final int IN_POND = 1;
    private static final int IN_SHED = 2;
    private static final int IN_SHIP = 3;
    private static final int CARRIED_HOME = 4;
    private static final int USED_UP = 5;
    private static final int ROTTED = 6;

    private static final int ON_PAPER = 0;
    private static final int ON_SLIP = 1;
    private static final int AFLOAT = 2;
    private static final int IN_DOCK = 3;
    private static final int AT_SEA = 4;
    private static final int BROKEN_UP = 5;

    private static final int FIT_LINE = 0;
    private static final int CHIP_LINE = 1;
    private static final int OWE_LINE = 2;
    private static final int LOOK_LINE = 3;

    private final Tape tape = new Tape();
    private final Finder finder = new Finder();
    private final Yard now = new Yard();
    private final Yard before = new Yard();
    private final Yard image = new Yard();
    private boolean undoable;
    private boolean imaged;

    public OakYard() {
        undoable = false;
        imaged = false;
    }

    // ---- the tape, woods, trees and pieces

    public int feed(int a, int b, int c, int d, int e) {
        return tape.takeFive(a, b, c, d, e);
    }

    public boolean end(int n) {
        return tape.cutTo(n);
    }

    public void road(int wood, int days) throws IndexOutOfBoundsException, IllegalArgumentException {
        checkIndex(wood, WOODS);
        checkNumber(within(days, 0, 60));
        now.roads[wood] = days;
    }

    public int tree(int wood, int sort, int length, int thick, int bend, int heart)
            throws IndexOutOfBoundsException, IllegalArgumentException, UnsupportedOperationException {
        checkIndex(wood, WOODS);
        checkNumber(within(sort, OAK, FIR) && within(length, 5, 100) && within(thick, 5, MOST_THICK));
        checkNumber(within(bend, -9, 9) && within(heart, 0, 9));
        checkRoom(now.treeCount, MOST_TREES);
        Tree tree = now.newTree();
        tree.grow(wood, sort, length, thick, bend, heart);
        return now.treeCount - 1;
    }

    public int fell(int tree, int kind) throws IndexOutOfBoundsException, IllegalArgumentException {
        checkIndex(tree, now.treeCount);
        checkNumber(within(kind, PLANK, MAST));
        if (now.trees[tree].felled || now.pieceCount >= MOST_PIECES) {
            return NONE;
        }
        remember();
        return now.fellTree(tree, kind);
    }

    public int buy(int kind, int sort, int length, int thick, int bend)
            throws IllegalArgumentException, UnsupportedOperationException {
        checkNumber(within(kind, PLANK, ROPE) && within(sort, OAK, FIR) && (kind != ROPE || sort == OAK));
        checkNumber(within(length, 5, 100) && within(thick, 1, MOST_THICK) && isBendOf(kind, bend));
        checkRoom(now.pieceCount, MOST_PIECES);
        remember();
        Piece piece = now.newPiece();
        piece.begin(kind, sort, now.day);
        piece.measure(length, thick, bend);
        return now.pieceCount - 1;
    }

    public void sheds(int n) throws IllegalArgumentException {
        checkNumber(within(n, 1, MOST_PIECES));
        now.shedRoom = n;
    }

    public boolean shed(int piece) throws IndexOutOfBoundsException {
        Piece it = pieceNumbered(piece);
        if (it.place != IN_POND || now.countIn(IN_SHED) >= now.shedRoom) {
            return false;
        }
        remember();
        it.comeIntoShed(now.day);
        return true;
    }

    public int piece(int piece, int what) throws IndexOutOfBoundsException, NoSuchElementException {
        Piece it = pieceNumbered(piece);
        if (!within(what, 0, 14)) {
            throw new NoSuchElementException();
        }
        return what < 8 ? it.tellBody(what) : it.tellStory(what);
    }

    public int look(int piece) throws IndexOutOfBoundsException {
        Piece it = pieceNumbered(piece);
        if (!within(it.place, IN_POND, IN_SHIP)) {
            return NONE;
        }
        Text text = now.warrants.inForce(now.day);
        it.takeLook(text == null ? 100 : text.lookLimit());
        return it.shows;
    }

    // ---- warrants

    public int warrant(int day) throws IllegalArgumentException, UnsupportedOperationException {
        if (!within(day, now.day, LAST_DAY)) {
            tape.empty();
            throw new IllegalArgumentException();
        }
        Text text = tape.readText();
        if (text == null) {
            throw new IllegalArgumentException();
        }
        checkRoom(now.warrants.count, MOST_WARRANTS);
        now.warrants.add(text, day);
        return text.lines;
    }

    public int fault() {
        return tape.firstWrong;
    }

    public boolean may(int piece, int ship, int day) throws IndexOutOfBoundsException {
        return lineThatLets(piece, ship, day) != NONE;
    }

    public int why(int piece, int ship, int day) throws IndexOutOfBoundsException {
        return lineThatLets(piece, ship, day);
    }

    public int beside(int ship, boolean other) throws IndexOutOfBoundsException, IllegalArgumentException {
        if (!within(ship, 0, now.shipCount - 1)) {
            tape.empty();
            throw new IndexOutOfBoundsException();
        }
        Text text = tape.readText();
        if (text == null) {
            throw new IllegalArgumentException();
        }
        Text inForce = now.warrants.inForce(now.day);
        return other ? now.letsMore(inForce, text, ship) : now.letsMore(text, inForce, ship);
    }

    // ---- ships

    public int ship(int deep, int work, boolean hired)
            throws IllegalArgumentException, UnsupportedOperationException {
        checkNumber(within(deep, 1, 40) && within(work, 0, 5000));
        checkRoom(now.shipCount, MOST_SHIPS);
        Ship ship = now.newShip();
        ship.draw(deep, work, hired);
        return now.shipCount - 1;
    }

    public int need(int ship, int kind, int length, int thick, int bend)
            throws IndexOutOfBoundsException, IllegalArgumentException, IllegalStateException {
        Ship it = shipNumbered(ship);
        checkNumber(within(kind, PLANK, ROPE) && isBendOf(kind, bend));
        checkNumber(within(length, 1, 300) && within(thick, 1, MOST_THICK));
        if (it.state != ON_PAPER) {
            throw new IllegalStateException();
        }
        return it.addNeed(kind, length, thick, bend);
    }

    public void slips(int n) throws IllegalArgumentException {
        checkNumber(within(n, 1, MOST_SHIPS));
        now.slipRoom = n;
    }

    public boolean lay(int ship) throws IndexOutOfBoundsException {
        Ship it = shipNumbered(ship);
        if (it.state != ON_PAPER || now.shipsOnSlips() >= now.slipRoom) {
            return false;
        }
        it.state = ON_SLIP;
        return true;
    }

    public boolean fit(int ship, int need, int piece, boolean force) throws IndexOutOfBoundsException {
        Ship it = shipNumbered(ship);
        checkIndex(need, it.needCount);
        Piece wood = pieceNumbered(piece);
        if (!it.isOpenToFitting() || it.pieceOf(need) != NONE || wood.place != IN_SHED
                || it.wasteOf(need, wood) == NONE) {
            return false;
        }
        boolean lets = now.lineFor(now.warrants.inForce(now.day), wood, ship) != NONE;
        if (!lets && !force) {
            return false;
        }
        remember();
        it.setPiece(need, piece);
        wood.goInto(ship, need, !lets);
        return true;
    }

    public int out(int ship, int need) throws IndexOutOfBoundsException {
        Ship it = shipNumbered(ship);
        checkIndex(need, it.needCount);
        int piece = it.pieceOf(need);
        if (piece == NONE || !it.isOpenToFitting()) {
            return NONE;
        }
        remember();
        now.takeOut(it, need);
        return piece;
    }

    public int waste(int ship, boolean trees) throws IndexOutOfBoundsException {
        checkIndex(ship, now.shipCount);
        return finder.leastWaste(now, ship, trees);
    }

    public int which(int ship, int need, boolean trees) throws IndexOutOfBoundsException {
        checkIndex(need, shipNumbered(ship).needCount);
        return finder.leastWaste(now, ship, trees) == NONE ? NONE : finder.chosenFor(need);
    }

    public int masts(int ship, int need) throws IndexOutOfBoundsException {
        Ship it = shipNumbered(ship);
        checkIndex(need, it.needCount);
        return finder.mastSet(now, it, need);
    }

    public int make(int ship, int need) throws IndexOutOfBoundsException {
        Ship it = shipNumbered(ship);
        checkIndex(need, it.needCount);
        int set = now.pieceCount >= MOST_PIECES ? NONE : finder.mastSet(now, it, need);
        if (set == NONE) {
            return NONE;
        }
        remember();
        return now.joinMasts(finder.mastNumbers, finder.mastCount, set);
    }

    public boolean launch(int ship) throws IndexOutOfBoundsException {
        Ship it = shipNumbered(ship);
        if (it.state != ON_SLIP || it.fitCount() < it.needCount || it.work > 0) {
            return false;
        }
        remember();
        it.state = AFLOAT;
        it.launched = now.day;
        return true;
    }

    // ---- docks and the sea

    public int dock(int sill) throws IllegalArgumentException, UnsupportedOperationException {
        checkNumber(within(sill, -20, 40));
        checkRoom(now.harbour.dockCount, MOST_DOCKS);
        return now.harbour.addDock(sill);
    }

    public void tide(int at, int level) throws IllegalArgumentException {
        checkNumber(within(at, 0, TIDES - 1) && within(level, 0, 40));
        now.harbour.tides[at] = level;
    }

    public boolean moor(int ship, int dock, boolean in) throws IndexOutOfBoundsException {
        Ship it = shipNumbered(ship);
        checkIndex(dock, now.harbour.dockCount);
        boolean placed = in ? it.state == AFLOAT && now.isDockFree(dock) : it.dock == dock;
        if (!placed || !now.harbour.lets(dock, it.deep, now.day)) {
            return false;
        }
        remember();
        it.state = in ? IN_DOCK : AFLOAT;
        it.dock = in ? dock : NONE;
        return true;
    }

    public boolean sail(int ship, boolean out) throws IndexOutOfBoundsException {
        Ship it = shipNumbered(ship);
        boolean can = out ? it.state == AFLOAT && !it.open : it.state == AT_SEA;
        if (!can) {
            return false;
        }
        remember();
        it.state = out ? AT_SEA : AFLOAT;
        return true;
    }

    public boolean shut(int ship) throws IndexOutOfBoundsException {
        Ship it = shipNumbered(ship);
        if (!it.open || it.state != IN_DOCK || now.worstRot(it) > 80) {
            return false;
        }
        it.open = false;
        return true;
    }

    public int breaks(int ship) throws IndexOutOfBoundsException {
        Ship it = shipNumbered(ship);
        if (!it.isAtYard()) {
            return NONE;
        }
        return now.breakUp(it);
    }

    public int led(int ship, int what) throws IndexOutOfBoundsException, NoSuchElementException {
        Ship it = shipNumbered(ship);
        switch (what) {
            case 8:
                return now.badPieces(it);
            case 10:
                return now.worstRot(it);
            case 11:
                return now.gangsOn(ship);
            default:
                if (!within(what, 0, 9)) {
                    throw new NoSuchElementException();
                }
                return it.tell(what);
        }
    }

    public int lastTide(int ship, int dock, int day) throws IndexOutOfBoundsException {
        Ship it = shipNumbered(ship);
        checkIndex(dock, now.harbour.dockCount);
        return now.harbour.lastDay(dock, it.deep, now.day, day);
    }

    public int docks(int dock, int set, int days) throws IndexOutOfBoundsException, IllegalArgumentException {
        checkIndex(dock, now.harbour.dockCount);
        checkNumber((set & -(1 << now.shipCount)) == 0 && Integer.bitCount(set) <= 4);
        checkNumber(within(days, 1, 60));
        return now.planDock(dock, set, days);
    }

    // ---- gangs and days

    public int gang(int strength) throws IllegalArgumentException, UnsupportedOperationException {
        checkNumber(within(strength, 1, 40));
        checkRoom(now.gangCount, MOST_GANGS);
        return now.addGang(strength);
    }

    public boolean works(int gang, int ship) throws IndexOutOfBoundsException {
        checkIndex(gang, now.gangCount);
        if (ship != NONE) {
            checkIndex(ship, now.shipCount);
        }
        boolean other = now.gangShip[gang] != ship;
        now.gangShip[gang] = ship;
        return other;
    }

    public int gangs() {
        return finder.gangPlan(now);
    }

    public int days(int n) throws IllegalArgumentException {
        checkNumber(within(n, 0, 200));
        int last = Math.min(LAST_DAY, now.day + n);
        if (last > now.day) {
            remember();
        }
        for (int d = now.day; d < last; d++) {
            now.passDay();
        }
        return now.day;
    }

    // ---- of one tree, and war

    public int ofTree(int piece, boolean ships) throws IndexOutOfBoundsException {
        checkIndex(piece, now.pieceCount);
        return ships ? now.shipsOfTree(piece) : now.piecesOfTree(piece);
    }

    public int fellows(int piece) throws IndexOutOfBoundsException {
        return now.shedFellows(pieceNumbered(piece).shedDay);
    }

    public int war() {
        return finder.floating(now);
    }

    // ---- the books and the plan

    public int enter(int book, int day, int n, int hand) throws IllegalArgumentException {
        checkNumber(within(book, 0, 1) && within(day, 0, now.day) && within(hand, 0, HANDS - 1));
        checkNumber(n != 0 && within(n, -10000, 10000));
        return now.books.addEntry(book, day, n, hand);
    }

    public int muster(int day, int n) throws IllegalArgumentException {
        checkNumber(within(day, 0, now.day) && within(n, 0, 100000));
        return now.books.addMuster(day, n);
    }

    public int wrong(int book) throws IllegalArgumentException {
        checkNumber(within(book, 0, 1));
        return now.books.firstFalse(book);
    }

    public int hand(int book) throws IllegalArgumentException {
        checkNumber(within(book, 0, 1));
        return now.books.busiestHand(book);
    }

    public int choice(int cost, int year, int ships, int later) throws IllegalArgumentException {
        checkNumber(within(cost, 0, MOST_COIN) && within(year, 0, YEARS - 1));
        checkNumber(within(ships, 0, 9) && within(later, 0, 9));
        return now.plan.addChoice(cost, year, ships, later);
    }

    public void coin(int row, int year, int n) throws IllegalArgumentException {
        checkNumber(within(row, 0, ROWS - 1) && within(year, 0, YEARS - 1) && within(n, 0, MOST_COIN));
        now.plan.coins[row][year] = n;
    }

    public boolean paid(int set) {
        return now.plan.isPaid(set);
    }

    public int best(int year) {
        return now.plan.bestSet(year);
    }

    // ---- what was

    public boolean undo() {
        if (!undoable) {
            return false;
        }
        now.copyFrom(before);
        undoable = false;
        return true;
    }

    public void keep() {
        image.copyFrom(now);
        imaged = true;
    }

    public boolean back() {
        if (!imaged) {
            return false;
        }
        now.copyFrom(image);
        undoable = false;
        return true;
    }

    public int count(int what) {
        return now.tell(what);
    }

    // ---- what the calls of the face share

    private void remember() {
        before.copyFrom(now);
        undoable = true;
    }

    private int lineThatLets(int piece, int ship, int day) {
        Piece it = pieceNumbered(piece);
        checkIndex(ship, now.shipCount);
        return now.lineFor(now.warrants.inForce(day), it, ship);
    }

    private Piece pieceNumbered(int n) {
        checkIndex(n, now.pieceCount);
        return now.pieces[n];
    }

    private Ship shipNumbered(int n) {
        checkIndex(n, now.shipCount);
        return now.ships[n];
    }

    private static void checkIndex(int n, int count) {
        if (n < 0 || n >= count) {
            throw new IndexOutOfBoundsException();
        }
    }

    private static void checkNumber(boolean isOne) {
        if (!isOne) {
            throw new IllegalArgumentException();
        }
    }

    private static void checkRoom(int count, int most) {
        if (count >= most) {
            throw new UnsupportedOperationException();
        }
    }

    private static boolean within(int n, int least, int most) {
        return n >= least && n <= most;
    }

    private static boolean isBendOf(int kind, int bend) {
        return kind == KNEE ? within(bend, -9, 9) : bend == 0;
    }

    /** A tree of a wood. */
    private static final class Tree {
        private int wood;
        private int sort;
        private int length;
        private int thick;
        private int bend;
        private int heart;
        private boolean felled;

        void grow(int itsWood, int itsSort, int itsLength, int itsThick, int itsBend, int itsHeart) {
            wood = itsWood;
            sort = itsSort;
            length = itsLength;
            thick = itsThick;
            bend = itsBend;
            heart = itsHeart;
            felled = false;
        }

        int lengthAs(int kind) {
            return kind == KNEE ? length : Math.max(5, length - Math.abs(bend));
        }

        int bendAs(int kind) {
            return kind == KNEE ? bend : 0;
        }

        void copyFrom(Tree other) {
            grow(other.wood, other.sort, other.length, other.thick, other.bend, other.heart);
            felled = other.felled;
        }
    }

    /** A piece, from the day that it was felled, bought or made. */
    private static final class Piece {
        private int kind;
        private int sort;
        private int length;
        private int thick;
        private int bend;
        private int tree;
        private int heart;
        private int born;
        private int arrives;
        private int place;
        private int dry;
        private int rot;
        private int rotByHeart;
        private boolean seen;
        private int shows;
        private int shedDay;
        private int ship;
        private int need;
        private boolean bad;

        void begin(int itsKind, int itsSort, int day) {
            kind = itsKind;
            sort = itsSort;
            born = day;
            tree = NONE;
            heart = 0;
            arrives = day;
            place = IN_POND;
            dry = 0;
            rot = 0;
            rotByHeart = 0;
            seen = false;
            shows = 0;
            shedDay = NONE;
            leaveShip();
        }

        void measure(int itsLength, int itsThick, int itsBend) {
            length = itsLength;
            thick = itsThick;
            bend = itsBend;
        }

        void comeFrom(int itsTree, int itsHeart) {
            tree = itsTree;
            heart = itsHeart;
        }

        void travel(int days) {
            arrives = born + days;
            place = days > 0 ? ON_ROAD : IN_POND;
        }

        void comeIntoShed(int day) {
            place = IN_SHED;
            shedDay = day;
        }

        void goInto(int itsShip, int itsNeed, boolean isBad) {
            place = IN_SHIP;
            ship = itsShip;
            need = itsNeed;
            bad = isBad;
        }

        void leaveShip() {
            ship = NONE;
            need = NONE;
            bad = false;
        }

        void takeLook(int limit) {
            seen = true;
            shows = Math.min(limit, Math.max(0, rot - rotByHeart));
        }

        void passDay(int day) {
            if (place == ON_ROAD && arrives <= day) {
                place = IN_POND;
            }
            if (kind == ROPE || place < IN_POND || place > IN_SHIP) {
                return;
            }
            if (day % 40 == 0) {
                // of what is cut at 100 the heart has made nothing
                int more = Math.min(heart / 2, MOST_ROT - rot);
                rot += more;
                rotByHeart += more;
            }
            if (place == IN_SHED) {
                dry++;
            }
            rot = Math.min(MOST_ROT, rot + rotByPlace(day));
            if (rot == MOST_ROT && place != IN_SHIP) {
                place = ROTTED;
            }
        }

        private int rotByPlace(int day) {
            boolean rots;
            if (place == IN_SHED) {
                rots = day % 10 == 0 && dry < 90;
            } else if (place == IN_POND) {
                rots = day % 5 == 0 && sort == FIR;
            } else {
                rots = day % 20 == 0 || dry < dryWanted();
            }
            return rots ? 1 : 0;
        }

        private int dryWanted() {
            if (sort == OAK) {
                return 100;
            }
            return sort == FIR ? 40 : 60;
        }

        int tellBody(int what) {
            switch (what) {
                case 0:
                    return kind;
                case 1:
                    return place;
                case 2:
                    return length;
                case 3:
                    return thick;
                case 4:
                    return bend;
                case 5:
                    return sort;
                case 6:
                    return dry;
                default:
                    return rot;
            }
        }

        int tellStory(int what) {
            switch (what) {
                case 8:
                    return shows;
                case 9:
                    return tree;
                case 10:
                    return born;
                case 11:
                    return ship;
                case 12:
                    return need;
                case 13:
                    return bad ? 1 : 0;
                default:
                    return shedDay;
            }
        }

        void copyFrom(Piece other) {
            begin(other.kind, other.sort, other.born);
            measure(other.length, other.thick, other.bend);
            comeFrom(other.tree, other.heart);
            arrives = other.arrives;
            place = other.place;
            dry = other.dry;
            rot = other.rot;
            rotByHeart = other.rotByHeart;
            seen = other.seen;
            shows = other.shows;
            shedDay = other.shedDay;
            ship = other.ship;
            need = other.need;
            bad = other.bad;
        }
    }

    /** A ship with its needs, and the numbers of the pieces that fit them. */
    private static final class Ship {
        private int deep;
        private int work;
        private boolean hired;
        private int state;
        private int dock;
        private int launched;
        private boolean open;
        private int owes;
        private int needCount;
        private final int[] needKind = new int[MOST_NEEDS];
        private final int[] needLength = new int[MOST_NEEDS];
        private final int[] needThick = new int[MOST_NEEDS];
        private final int[] needBend = new int[MOST_NEEDS];
        private final int[] needPiece = new int[MOST_NEEDS];

        void draw(int itsDeep, int itsWork, boolean isHired) {
            deep = itsDeep;
            work = itsWork;
            hired = isHired;
            state = ON_PAPER;
            dock = NONE;
            launched = NONE;
            open = false;
            owes = 0;
            needCount = 0;
        }

        int addNeed(int kind, int length, int thick, int bend) {
            if (needCount >= MOST_NEEDS) {
                return NONE;
            }
            needKind[needCount] = kind;
            needLength[needCount] = length;
            needThick[needCount] = thick;
            needBend[needCount] = bend;
            needPiece[needCount] = NONE;
            return needCount++;
        }

        int pieceOf(int need) {
            return within(need, 0, needCount - 1) ? needPiece[need] : NONE;
        }

        void setPiece(int need, int piece) {
            if (within(need, 0, needCount - 1)) {
                needPiece[need] = piece;
            }
        }

        int fitCount() {
            int fits = 0;
            for (int n = 0; n < needCount; n++) {
                if (needPiece[n] != NONE) {
                    fits++;
                }
            }
            return fits;
        }

        boolean isOpenToFitting() {
            return state == ON_SLIP || state == IN_DOCK;
        }

        boolean isAtYard() {
            return state == ON_SLIP || state == AFLOAT || state == IN_DOCK;
        }

        /** The waste of a piece for a need; NONE if it is of another kind or not enough. */
        int wasteOf(int need, Piece piece) {
            if (need < 0 || need >= needCount || needKind[need] != piece.kind) {
                return NONE;
            }
            return wasteOf(need, piece.length, piece.thick, piece.bend);
        }

        /** The waste of such a piece of the need's kind. */
        int wasteOf(int need, int length, int thick, int bend) {
            if (need < 0 || need >= needCount || length < needLength[need] || thick < needThick[need]) {
                return NONE;
            }
            if (needKind[need] == KNEE && Math.abs(bend - needBend[need]) > 1) {
                return NONE;
            }
            return length - needLength[need] + thick - needThick[need];
        }

        int tell(int what) {
            switch (what) {
                case 0:
                    return state;
                case 1:
                    return work;
                case 2:
                    return needCount;
                case 3:
                    return fitCount();
                case 4:
                    return dock;
                case 5:
                    return launched;
                case 6:
                    return open ? 1 : 0;
                case 7:
                    return owes;
                default:
                    return deep;
            }
        }

        void copyFrom(Ship other) {
            draw(other.deep, other.work, other.hired);
            state = other.state;
            dock = other.dock;
            launched = other.launched;
            open = other.open;
            owes = other.owes;
            needCount = other.needCount;
            System.arraycopy(other.needKind, 0, needKind, 0, MOST_NEEDS);
            System.arraycopy(other.needLength, 0, needLength, 0, MOST_NEEDS);
            System.arraycopy(other.needThick, 0, needThick, 0, MOST_NEEDS);
            System.arraycopy(other.needBend, 0, needBend, 0, MOST_NEEDS);
            System.arraycopy(other.needPiece, 0, needPiece, 0, MOST_NEEDS);
        }
    }

    /** The text of a warrant as it was read; it never changes, so that yards may share it. */
    private static final class Text {
        private static final int TAG = 0;
        private static final int LESS = 1;
        private static final int MORE = 2;
        private static final int NOT = 3;
        private static final int AND = 4;
        private static final int OR = 5;

        private final int lines;
        private final int[] verbs;
        private final int[] numbers;
        private final int[] ends;
        private final int[] code;

        /** The code of a line's condition stands in the order in which it is reckoned, up to the line's end. */
        Text(int[] itsVerbs, int[] itsNumbers, int[] itsEnds, int[] itsCode) {
            lines = itsVerbs.length;
            verbs = itsVerbs;
            numbers = itsNumbers;
            ends = itsEnds;
            code = itsCode;
        }

        static int step(int act, int which, int number) {
            return act | which << 3 | number << 6;
        }

        int firstFit(int kind, Warrants asked) {
            for (int n = 0; n < lines; n++) {
                if (verbs[n] == FIT_LINE && numbers[n] == kind && holds(n, asked)) {
                    return n;
                }
            }
            return NONE;
        }

        int sumOf(int verb, Warrants asked) {
            int sum = 0;
            for (int n = 0; n < lines; n++) {
                if (verbs[n] == verb && holds(n, asked)) {
                    sum += numbers[n];
                }
            }
            return sum;
        }

        int lookLimit() {
            int limit = 100;
            for (int n = 0; n < lines; n++) {
                if (verbs[n] == LOOK_LINE) {
                    limit = numbers[n];
                }
            }
            return limit;
        }

        // The answers of a condition's parts stand as bits of one number, the latest lowest: with parts six deep there
        // are never more than some fifteen at once.
        private boolean holds(int line, Warrants asked) {
            int from = line == 0 ? 0 : ends[line - 1];
            int answers = 1;
            for (int c = from; c < ends[line]; c++) {
                int act = code[c] & 7;
                int lowest = answers & 1;
                if (act == NOT) {
                    answers ^= 1;
                } else if (act == AND) {
                    answers = answers >>> 1 & (lowest | ~1);
                } else if (act == OR) {
                    answers = answers >>> 1 | lowest;
                } else {
                    answers = answers << 1 | (isSo(act, code[c], asked) ? 1 : 0);
                }
            }
            return (answers & 1) == 1;
        }

        private static boolean isSo(int act, int step, Warrants asked) {
            int which = step >>> 3 & 7;
            if (act == TAG) {
                return (asked.tags >>> which & 1) == 1;
            }
            int fact = which < asked.facts.length ? asked.facts[which] : 0;
            return act == LESS ? fact < step >>> 6 : fact > step >>> 6;
        }
    }

    /** The tape of bytes, and the reading of a text from it. */
    private static final class Tape {
        private static final String VERBS = "fit chip owe look";
        private static final String KINDS = "plank knee mast rope";
        private static final String TAGS = "oak elm fir hired seen";
        private static final String FACTS = "dry rot thick long age gangs";
        private static final int MOST_NUMBER = 99999;
        private static final int TOO_MUCH = 100000;

        private static final int NOTHING = 0;
        private static final int WORD = 1;
        private static final int NUMBER = 2;
        private static final int SIGN = 3;

        private final int[] bytes = new int[TAPE_ROOM];
        private int length;
        private int firstWrong = NONE;

        private int at;
        private int begin;
        private int thing;
        private int value;

        private int lines;
        private final int[] verbs = new int[MOST_LINES];
        private final int[] numbers = new int[MOST_LINES];
        private final int[] ends = new int[MOST_LINES];
        private int steps;
        private final int[] code = new int[TAPE_ROOM];

        int takeFive(int a, int b, int c, int d, int e) {
            if (length + 20 > TAPE_ROOM) {
                return NONE;
            }
            takeFour(a);
            takeFour(b);
            takeFour(c);
            takeFour(d);
            takeFour(e);
            return length;
        }

        private void takeFour(int number) {
            for (int shift = 24; shift >= 0 && length < TAPE_ROOM; shift -= 8) {
                bytes[length] = number >>> shift & 255;
                length++;
            }
        }

        boolean cutTo(int n) {
            if (n < 0 || n > length) {
                return false;
            }
            length = n;
            return true;
        }

        void empty() {
            length = 0;
        }

        /** The text on the tape, which is used up; null if the text is wrong. */
        Text readText() {
            at = 0;
            lines = 0;
            steps = 0;
            firstWrong = NONE;
            nextThing();
            boolean more = thing != NOTHING;
            for (int n = 0; n < MOST_LINES && more; n++) {
                more = readLine() && isSign(';');
                if (more) {
                    nextThing();
                }
            }
            if (more) {
                wrongHere();
            }
            length = 0;
            if (firstWrong != NONE) {
                return null;
            }
            return new Text(Arrays.copyOf(verbs, lines), Arrays.copyOf(numbers, lines), Arrays.copyOf(ends, lines),
                    Arrays.copyOf(code, steps));
        }

        private boolean readLine() {
            int verb = wordAmong(VERBS);
            if (verb == NONE || lines >= MOST_LINES) {
                return wrongHere();
            }
            nextThing();
            int number = verb == FIT_LINE ? wordAmong(KINDS) : numberUpTo(mostOf(verb));
            if (number == NONE) {
                return wrongHere();
            }
            nextThing();
            if (verb != LOOK_LINE && isWord("if")) {
                nextThing();
                if (!readCondition(0)) {
                    return false;
                }
            }
            verbs[lines] = verb;
            numbers[lines] = number;
            ends[lines] = steps;
            lines++;
            return thing == NOTHING || isSign(';') || wrongHere();
        }

        private static int mostOf(int verb) {
            if (verb == LOOK_LINE) {
                return 100;
            }
            return verb == CHIP_LINE ? 1000 : MOST_NUMBER;
        }

        private boolean readCondition(int deep) {
            if (!readAll(deep)) {
                return false;
            }
            for (int n = 0; n < TAPE_ROOM && isWord("or"); n++) {
                nextThing();
                if (!readAll(deep)) {
                    return false;
                }
                addStep(Text.step(Text.OR, 0, 0));
            }
            return true;
        }

        private boolean readAll(int deep) {
            if (!readAtom(deep)) {
                return false;
            }
            for (int n = 0; n < TAPE_ROOM && isWord("and"); n++) {
                nextThing();
                if (!readAtom(deep)) {
                    return false;
                }
                addStep(Text.step(Text.AND, 0, 0));
            }
            return true;
        }

        private boolean readAtom(int deep) {
            boolean not = isWord("not");
            if (not || isSign('(')) {
                if (deep >= MOST_DEEP_WITHIN) {
                    return wrongHere();
                }
                nextThing();
                return not ? readNegated(deep + 1) : readBracketed(deep + 1);
            }
            int tag = wordAmong(TAGS);
            if (tag == NONE) {
                return readFact();
            }
            addStep(Text.step(Text.TAG, tag, 0));
            nextThing();
            return true;
        }

        private boolean readNegated(int deep) {
            if (!readAtom(deep)) {
                return false;
            }
            addStep(Text.step(Text.NOT, 0, 0));
            return true;
        }

        private boolean readBracketed(int deep) {
            if (!readCondition(deep)) {
                return false;
            }
            if (!isSign(')')) {
                return wrongHere();
            }
            nextThing();
            return true;
        }

        private boolean readFact() {
            int fact = wordAmong(FACTS);
            if (fact == NONE) {
                return wrongHere();
            }
            nextThing();
            boolean less = isSign('<');
            if (!less && !isSign('>')) {
                return wrongHere();
            }
            nextThing();
            int number = numberUpTo(MOST_NUMBER);
            if (number == NONE) {
                return wrongHere();
            }
            addStep(Text.step(less ? Text.LESS : Text.MORE, fact, number));
            nextThing();
            return true;
        }

        private void addStep(int step) {
            if (steps < TAPE_ROOM) {
                code[steps] = step;
                steps++;
            }
        }

        private boolean wrongHere() {
            firstWrong = begin;
            return false;
        }

        private void nextThing() {
            while (at < length && bytes[at] == ' ') {
                at++;
            }
            begin = at;
            value = 0;
            thing = NOTHING;
            while (at < length && bytes[at] >= 'a' && bytes[at] <= 'z') {
                thing = WORD;
                at++;
            }
            while (at < length && thing != WORD && bytes[at] >= '0' && bytes[at] <= '9') {
                thing = NUMBER;
                value = at - begin < 5 ? value * 10 + bytes[at] - '0' : TOO_MUCH;
                at++;
            }
            if (at < length && thing == NOTHING) {
                thing = SIGN;
                value = bytes[at];
                at++;
            }
        }

        private boolean isSign(int sign) {
            return thing == SIGN && value == sign;
        }

        private int numberUpTo(int most) {
            return thing == NUMBER && value <= most ? value : NONE;
        }

        private boolean isWord(String word) {
            return wordAmong(word) == 0;
        }

        /** The place of the word at hand among words with a blank between them. */
        private int wordAmong(String words) {
            if (thing != WORD) {
                return NONE;
            }
            int place = 0;
            int alike = 0;
            for (int n = 0; n <= words.length(); n++) {
                if (n == words.length() || words.charAt(n) == ' ') {
                    if (alike == at - begin) {
                        return place;
                    }
                    place++;
                    alike = 0;
                } else if (alike >= 0 && alike < at - begin && bytes[begin + alike] == words.charAt(n)) {
                    alike++;
                } else {
                    alike = NONE;
                }
            }
            return NONE;
        }
    }

    /** The texts in force, and the facts that they are asked about. */
    private static final class Warrants {
        private static final int HIRED = 1 << 3;
        private static final int SEEN = 1 << 4;
        private static final int FACTS = 6;

        private final Text[] texts = new Text[MOST_WARRANTS];
        private final int[] days = new int[MOST_WARRANTS];
        private int count;
        private int tags;
        private final int[] facts = new int[FACTS];

        void add(Text text, int day) {
            if (count < MOST_WARRANTS) {
                texts[count] = text;
                days[count] = day;
                count++;
            }
        }

        /** The text of a day; null ahead of any. */
        Text inForce(int day) {
            Text text = null;
            int latest = 0;
            for (int n = 0; n < count; n++) {
                if (days[n] <= day && days[n] >= latest) {
                    text = texts[n];
                    latest = days[n];
                }
            }
            return text;
        }

        void tellPiece(Piece piece, int age) {
            tags = (piece.kind == ROPE ? 0 : 1 << piece.sort) | (piece.seen ? SEEN : 0);
            facts[0] = piece.dry;
            facts[1] = piece.shows;
            facts[2] = piece.thick;
            facts[3] = piece.length;
            facts[4] = age;
        }

        void tellOpening(int age, int dry, int rot) {
            tellNothing();
            facts[0] = dry;
            facts[1] = rot;
            facts[4] = age;
        }

        void tellNothing() {
            tags = 0;
            Arrays.fill(facts, 0);
        }

        void tellShip(boolean hired, int gangs) {
            tags |= hired ? HIRED : 0;
            facts[5] = gangs;
        }

        void copyFrom(Warrants other) {
            for (int n = 0; n < other.count; n++) {
                texts[n] = other.texts[n];
                days[n] = other.days[n];
            }
            count = other.count;
        }
    }

    /** Docks and tides. */
    private static final class Harbour {
        private final int[] sills = new int[MOST_DOCKS];
        private int dockCount;
        private final int[] tides = new int[TIDES];

        int addDock(int sill) {
            if (dockCount >= MOST_DOCKS) {
                return NONE;
            }
            sills[dockCount] = sill;
            return dockCount++;
        }

        boolean lets(int dock, int deep, int day) {
            return within(dock, 0, dockCount - 1) && tides[Math.floorMod(day, TIDES)] + sills[dock] >= deep;
        }

        int lastDay(int dock, int deep, int from, int to) {
            for (int back = 0; back < TIDES && to - back >= from; back++) {
                if (lets(dock, deep, to - back)) {
                    return to - back;
                }
            }
            return NONE;
        }

        int firstDay(int dock, int deep, int from) {
            for (int n = 0; n < TIDES; n++) {
                if (lets(dock, deep, from + n)) {
                    return from + n;
                }
            }
            return NONE;
        }

        /** The first day on which a ship is out that may come in from a day on and stays so many days; NONE. */
        int dayOut(int dock, int deep, int from, int stay) {
            int in = firstDay(dock, deep, from);
            return in == NONE ? NONE : firstDay(dock, deep, in + stay);
        }

        void copyFrom(Harbour other) {
            System.arraycopy(other.sills, 0, sills, 0, MOST_DOCKS);
            dockCount = other.dockCount;
            System.arraycopy(other.tides, 0, tides, 0, TIDES);
        }
    }

    /** The two books of the store, and its musters. */
    private static final class Books {
        private final int[] entryBook = new int[MOST_ENTRIES];
        private final int[] entryDay = new int[MOST_ENTRIES];
        private final int[] entryUnits = new int[MOST_ENTRIES];
        private final int[] entryHand = new int[MOST_ENTRIES];
        private int entryCount;
        private final int[] musterDay = new int[MOST_MUSTERS];
        private final int[] musterUnits = new int[MOST_MUSTERS];
        private int musterCount;
        private final int[] handUnits = new int[HANDS];

        int addEntry(int book, int day, int units, int hand) {
            if (entryCount >= MOST_ENTRIES) {
                return NONE;
            }
            entryBook[entryCount] = book;
            entryDay[entryCount] = day;
            entryUnits[entryCount] = units;
            entryHand[entryCount] = hand;
            entryCount++;
            return entryCount;
        }

        int addMuster(int day, int units) {
            if (musterCount >= MOST_MUSTERS) {
                return NONE;
            }
            musterDay[musterCount] = day;
            musterUnits[musterCount] = units;
            musterCount++;
            return musterCount;
        }

        int firstFalse(int book) {
            int found = NONE;
            for (int m = 0; m < musterCount; m++) {
                boolean earlier = found == NONE || musterDay[m] < musterDay[found];
                if (earlier && unitsUpTo(book, musterDay[m]) != musterUnits[m]) {
                    found = m;
                }
            }
            return found;
        }

        private int unitsUpTo(int book, int day) {
            int units = 0;
            for (int e = 0; e < entryCount; e++) {
                if (entryBook[e] == book && entryDay[e] <= day) {
                    units += entryUnits[e];
                }
            }
            return units;
        }

        int busiestHand(int book) {
            int muster = firstFalse(book);
            if (muster == NONE) {
                return NONE;
            }
            addUpHands(book, dayAheadOf(muster), musterDay[muster]);
            int busiest = NONE;
            int most = 0;
            for (int h = 0; h < HANDS; h++) {
                if (handUnits[h] > most) {
                    busiest = h;
                    most = handUnits[h];
                }
            }
            return busiest;
        }

        /** The day of the last muster ahead of one, by day and then as they came; NONE lies ahead of every day. */
        private int dayAheadOf(int muster) {
            int day = NONE;
            for (int m = 0; m < musterCount; m++) {
                boolean ahead = musterDay[m] < musterDay[muster] || musterDay[m] == musterDay[muster] && m < muster;
                if (ahead) {
                    day = Math.max(day, musterDay[m]);
                }
            }
            return day;
        }

        private void addUpHands(int book, int behind, int upTo) {
            Arrays.fill(handUnits, 0);
            for (int e = 0; e < entryCount; e++) {
                if (entryBook[e] == book && entryDay[e] > behind && entryDay[e] <= upTo) {
                    handUnits[entryHand[e]] += Math.abs(entryUnits[e]);
                }
            }
        }

        void copyFrom(Books other) {
            entryCount = other.entryCount;
            System.arraycopy(other.entryBook, 0, entryBook, 0, entryCount);
            System.arraycopy(other.entryDay, 0, entryDay, 0, entryCount);
            System.arraycopy(other.entryUnits, 0, entryUnits, 0, entryCount);
            System.arraycopy(other.entryHand, 0, entryHand, 0, entryCount);
            musterCount = other.musterCount;
            System.arraycopy(other.musterDay, 0, musterDay, 0, musterCount);
            System.arraycopy(other.musterUnits, 0, musterUnits, 0, musterCount);
        }
    }

    /** The choices of the years to come, and the rows of their coin. */
    private static final class Plan {
        private final int[] cost = new int[MOST_CHOICES];
        private final int[] year = new int[MOST_CHOICES];
        private final int[] gain = new int[MOST_CHOICES];
        private final int[] later = new int[MOST_CHOICES];
        private int choiceCount;
        private final int[][] coins = new int[ROWS][YEARS];

        int addChoice(int itsCost, int itsYear, int itsShips, int itsLater) {
            if (choiceCount >= MOST_CHOICES) {
                return NONE;
            }
            cost[choiceCount] = itsCost;
            year[choiceCount] = itsYear;
            gain[choiceCount] = itsShips;
            later[choiceCount] = itsLater;
            choiceCount++;
            return choiceCount;
        }

        boolean isPaid(int set) {
            for (int row = 0; row < ROWS; row++) {
                int left = 0;
                for (int y = 0; y < YEARS; y++) {
                    left += coins[row][y] - costIn(set, y);
                    if (left < 0) {
                        return false;
                    }
                }
            }
            return true;
        }

        private int costIn(int set, int inYear) {
            int sum = 0;
            for (int c = 0; c < choiceCount; c++) {
                if ((set >>> c & 1) == 1 && year[c] == inYear) {
                    sum += cost[c];
                }
            }
            return sum;
        }

        private int costOf(int set) {
            int sum = 0;
            for (int c = 0; c < choiceCount; c++) {
                if ((set >>> c & 1) == 1) {
                    sum += cost[c];
                }
            }
            return sum;
        }

        private int readyBy(int set, int byYear) {
            int ships = 0;
            for (int c = 0; c < choiceCount; c++) {
                if ((set >>> c & 1) == 1 && year[c] + later[c] <= byYear) {
                    ships += gain[c];
                }
            }
            return ships;
        }

        int bestSet(int byYear) {
            int found = 0;
            for (int set = 1; set < 1 << choiceCount; set++) {
                int more = readyBy(set, byYear) - readyBy(found, byYear);
                boolean better = more > 0 || more == 0 && costOf(set) < costOf(found);
                if (better && isPaid(set)) {
                    found = set;
                }
            }
            return found;
        }

        void copyFrom(Plan other) {
            System.arraycopy(other.cost, 0, cost, 0, MOST_CHOICES);
            System.arraycopy(other.year, 0, year, 0, MOST_CHOICES);
            System.arraycopy(other.gain, 0, gain, 0, MOST_CHOICES);
            System.arraycopy(other.later, 0, later, 0, MOST_CHOICES);
            choiceCount = other.choiceCount;
            for (int row = 0; row < ROWS; row++) {
                System.arraycopy(other.coins[row], 0, coins[row], 0, YEARS);
            }
        }
    }

    /** All that a yard has and that a day changes; the yard of today, the one ahead of the last call, the image. */
    private static final class Yard {
        private int day;
        private final int[] roads = new int[WOODS];
        private final Tree[] trees = new Tree[MOST_TREES];
        private int treeCount;
        private final Piece[] pieces = new Piece[MOST_PIECES];
        private int pieceCount;
        private int shedRoom = 20;
        private final Ship[] ships = new Ship[MOST_SHIPS];
        private int shipCount;
        private int slipRoom = 2;
        private final int[] strength = new int[MOST_GANGS];
        private final int[] gangShip = new int[MOST_GANGS];
        private int gangCount;
        private int chips;
        private int openings;
        private final Warrants warrants = new Warrants();
        private final Harbour harbour = new Harbour();
        private final Books books = new Books();
        private final Plan plan = new Plan();
        private final int[] dayAllOut = new int[16];

        Yard() {
            Arrays.fill(roads, 10);
            for (int n = 0; n < MOST_TREES; n++) {
                trees[n] = new Tree();
            }
            for (int n = 0; n < MOST_PIECES; n++) {
                pieces[n] = new Piece();
            }
            for (int n = 0; n < MOST_SHIPS; n++) {
                ships[n] = new Ship();
            }
        }

        void copyFrom(Yard other) {
            day = other.day;
            System.arraycopy(other.roads, 0, roads, 0, WOODS);
            treeCount = other.treeCount;
            for (int n = 0; n < treeCount; n++) {
                trees[n].copyFrom(other.trees[n]);
            }
            pieceCount = other.pieceCount;
            for (int n = 0; n < pieceCount; n++) {
                pieces[n].copyFrom(other.pieces[n]);
            }
            shedRoom = other.shedRoom;
            shipCount = other.shipCount;
            for (int n = 0; n < shipCount; n++) {
                ships[n].copyFrom(other.ships[n]);
            }
            slipRoom = other.slipRoom;
            gangCount = other.gangCount;
            System.arraycopy(other.strength, 0, strength, 0, MOST_GANGS);
            System.arraycopy(other.gangShip, 0, gangShip, 0, MOST_GANGS);
            chips = other.chips;
            openings = other.openings;
            warrants.copyFrom(other.warrants);
            harbour.copyFrom(other.harbour);
            books.copyFrom(other.books);
            plan.copyFrom(other.plan);
        }

        // The face looks first whether there is room.
        Tree newTree() {
            Tree tree = trees[Math.min(treeCount, MOST_TREES - 1)];
            treeCount = Math.min(treeCount + 1, MOST_TREES);
            return tree;
        }

        Piece newPiece() {
            Piece piece = pieces[Math.min(pieceCount, MOST_PIECES - 1)];
            pieceCount = Math.min(pieceCount + 1, MOST_PIECES);
            return piece;
        }

        Ship newShip() {
            Ship ship = ships[Math.min(shipCount, MOST_SHIPS - 1)];
            shipCount = Math.min(shipCount + 1, MOST_SHIPS);
            return ship;
        }

        int addGang(int itsStrength) {
            if (gangCount >= MOST_GANGS) {
                return NONE;
            }
            strength[gangCount] = itsStrength;
            gangShip[gangCount] = NONE;
            return gangCount++;
        }

        int fellTree(int number, int kind) {
            Tree tree = trees[number];
            tree.felled = true;
            Piece piece = newPiece();
            piece.begin(kind, tree.sort, day);
            piece.measure(tree.lengthAs(kind), tree.thick, tree.bendAs(kind));
            piece.comeFrom(number, tree.heart);
            piece.travel(roads[tree.wood]);
            return pieceCount - 1;
        }

        /** One mast of those whose bits are set; the first of them has sort, tree, heart and day for it. */
        int joinMasts(int[] masts, int mastCount, int set) {
            Piece made = newPiece();
            boolean first = true;
            for (int m = 0; m < mastCount; m++) {
                if ((set >>> m & 1) == 1) {
                    Piece part = pieces[masts[m]];
                    if (first) {
                        beginMast(made, part);
                    } else {
                        lengthenMast(made, part);
                    }
                    part.place = USED_UP;
                    first = false;
                }
            }
            made.comeIntoShed(day);
            return pieceCount - 1;
        }

        private void beginMast(Piece made, Piece part) {
            made.begin(MAST, part.sort, part.born);
            made.measure(part.length, part.thick, 0);
            made.comeFrom(part.tree, part.heart);
            made.dry = part.dry;
            made.rot = part.rot;
        }

        private void lengthenMast(Piece made, Piece part) {
            made.measure(made.length + part.length - 4, Math.min(made.thick, part.thick), 0);
            made.dry = Math.min(made.dry, part.dry);
            made.rot = Math.max(made.rot, part.rot);
        }

        // ---- a day

        void passDay() {
            day++;
            for (int p = 0; p < pieceCount; p++) {
                pieces[p].passDay(day);
            }
            Text text = warrants.inForce(day);
            for (int s = 0; s < shipCount; s++) {
                if (ships[s].state == AT_SEA && worstRot(ships[s]) > 80) {
                    openUp(s, text);
                }
            }
            for (int g = 0; g < gangCount; g++) {
                if (within(gangShip[g], 0, shipCount - 1)) {
                    letWork(g, ships[gangShip[g]], text);
                }
            }
        }

        private void openUp(int number, Text text) {
            Ship ship = ships[number];
            ship.state = AFLOAT;
            ship.open = true;
            openings++;
            if (ship.hired && text != null) {
                warrants.tellOpening(day - ship.launched, leastDry(ship), worstRot(ship));
                warrants.tellShip(true, gangsOn(number));
                ship.owes = Math.min(MOST_OWED, ship.owes + text.sumOf(OWE_LINE, warrants));
            }
        }

        private void letWork(int gang, Ship ship, Text text) {
            if (ship.isOpenToFitting() && ship.fitCount() == ship.needCount) {
                ship.work = Math.max(0, ship.work - strength[gang]);
            }
            if (ship.isAtYard() && text != null) {
                warrants.tellNothing();
                warrants.tellShip(ship.hired, gangsOn(gangShip[gang]));
                carryChips(text.sumOf(CHIP_LINE, warrants));
            }
        }

        private void carryChips(int more) {
            int planks = (chips + more) / 100 - chips / 100;
            chips += more;
            for (int p = 0; p < pieceCount && planks > 0; p++) {
                if (pieces[p].kind == PLANK && pieces[p].place == IN_SHED) {
                    pieces[p].place = CARRIED_HOME;
                    planks--;
                }
            }
        }

        // ---- pieces and ships

        int countIn(int place) {
            int count = 0;
            for (int p = 0; p < pieceCount; p++) {
                if (pieces[p].place == place) {
                    count++;
                }
            }
            return count;
        }

        /** The line of a text that lets a piece go into a ship; NONE, also without a text. */
        int lineFor(Text text, Piece piece, int ship) {
            if (text == null || !within(ship, 0, shipCount - 1)) {
                return NONE;
            }
            warrants.tellPiece(piece, day - piece.born);
            warrants.tellShip(ships[ship].hired, gangsOn(ship));
            return text.firstFit(piece.kind, warrants);
        }

        /** How many pieces of the shed may go into a ship by one text and not by another. */
        int letsMore(Text one, Text other, int ship) {
            int more = 0;
            for (int p = 0; p < pieceCount; p++) {
                boolean there = pieces[p].place == IN_SHED;
                if (there && lineFor(one, pieces[p], ship) != NONE && lineFor(other, pieces[p], ship) == NONE) {
                    more++;
                }
            }
            return more;
        }

        /** The piece that a need is fit by; null without one. */
        Piece pieceIn(Ship ship, int need) {
            int number = ship.pieceOf(need);
            return within(number, 0, pieceCount - 1) ? pieces[number] : null;
        }

        void takeOut(Ship ship, int need) {
            Piece piece = pieceIn(ship, need);
            ship.setPiece(need, NONE);
            if (piece != null) {
                piece.place = IN_POND;
                piece.leaveShip();
            }
        }

        int breakUp(Ship ship) {
            int came = ship.fitCount();
            for (int n = 0; n < ship.needCount; n++) {
                takeOut(ship, n);
            }
            ship.state = BROKEN_UP;
            ship.dock = NONE;
            return came;
        }

        int worstRot(Ship ship) {
            int worst = 0;
            for (int n = 0; n < ship.needCount; n++) {
                Piece piece = pieceIn(ship, n);
                if (piece != null) {
                    worst = Math.max(worst, piece.rot);
                }
            }
            return worst;
        }

        private int leastDry(Ship ship) {
            int least = NONE;
            for (int n = 0; n < ship.needCount; n++) {
                Piece piece = pieceIn(ship, n);
                if (piece != null) {
                    least = least == NONE ? piece.dry : Math.min(least, piece.dry);
                }
            }
            return Math.max(0, least);
        }

        int badPieces(Ship ship) {
            int bad = 0;
            for (int n = 0; n < ship.needCount; n++) {
                Piece piece = pieceIn(ship, n);
                if (piece != null && piece.bad) {
                    bad++;
                }
            }
            return bad;
        }

        int gangsOn(int ship) {
            int gangs = 0;
            for (int g = 0; g < gangCount; g++) {
                if (gangShip[g] == ship) {
                    gangs++;
                }
            }
            return gangs;
        }

        int shipsOnSlips() {
            int on = 0;
            for (int s = 0; s < shipCount; s++) {
                if (ships[s].state == ON_SLIP) {
                    on++;
                }
            }
            return on;
        }

        // ---- docks

        boolean isDockFree(int dock) {
            for (int s = 0; s < shipCount; s++) {
                if (ships[s].dock == dock) {
                    return false;
                }
            }
            return true;
        }

        int planDock(int dock, int set, int stay) {
            for (int s = 0; s < shipCount; s++) {
                if ((set >>> s & 1) == 1 && ships[s].state != AFLOAT) {
                    return NONE;
                }
            }
            int all = (1 << Integer.bitCount(set)) - 1;
            dayAllOut[0] = day;
            for (int part = 1; part <= all && part < dayAllOut.length; part++) {
                dayAllOut[part] = firstDayOut(dock, set, part, stay);
            }
            int last = all < dayAllOut.length ? dayAllOut[all] : NONE;
            return last == NONE || last - day > DOCK_PLAN_DAYS ? NONE : last - day;
        }

        // To be out sooner never makes those that come behind later, so the best of every part of the set will do.
        private int firstDayOut(int dock, int set, int part, int stay) {
            int first = NONE;
            int place = 0;
            for (int s = 0; s < shipCount; s++) {
                if ((set >>> s & 1) == 1) {
                    int rest = part & ~(1 << place);
                    if (rest != part && dayAllOut[rest] != NONE) {
                        int out = harbour.dayOut(dock, ships[s].deep, dayAllOut[rest], stay);
                        first = out != NONE && (first == NONE || out < first) ? out : first;
                    }
                    place++;
                }
            }
            return first;
        }

        // ---- of one tree

        private boolean isOfTree(int piece, int fellow) {
            return piece == fellow || pieces[piece].tree != NONE && pieces[piece].tree == pieces[fellow].tree;
        }

        int piecesOfTree(int piece) {
            int count = 0;
            for (int p = 0; p < pieceCount; p++) {
                if (isOfTree(piece, p)) {
                    count++;
                }
            }
            return count;
        }

        int shipsOfTree(int piece) {
            int set = 0;
            for (int p = 0; p < pieceCount; p++) {
                if (pieces[p].ship != NONE && isOfTree(piece, p)) {
                    set |= 1 << pieces[p].ship;
                }
            }
            return set;
        }

        int shedFellows(int shedDay) {
            int count = 0;
            for (int p = 0; p < pieceCount && shedDay != NONE; p++) {
                if (pieces[p].shedDay != NONE && Math.abs(pieces[p].shedDay - shedDay) <= 7) {
                    count++;
                }
            }
            return count;
        }

        // ---- what there is

        int tell(int what) {
            if (within(what, 4, 10)) {
                return countIn(what - 4);
            }
            switch (what) {
                case 0:
                    return day;
                case 1:
                    return treeCount;
                case 2:
                    return treesThatStand();
                case 3:
                    return pieceCount;
                case 11:
                    return shipCount;
                case 12:
                    return shipsOnSlips();
                case 13:
                    return harbour.dockCount;
                case 14:
                    return gangCount;
                case 15:
                    return chips;
                case 16:
                    return warrants.count;
                case 17:
                    return linesOfToday();
                case 18:
                    return openings;
                default:
                    return NONE;
            }
        }

        private int treesThatStand() {
            int stand = 0;
            for (int t = 0; t < treeCount; t++) {
                if (!trees[t].felled) {
                    stand++;
                }
            }
            return stand;
        }

        private int linesOfToday() {
            Text text = warrants.inForce(day);
            return text == null ? 0 : text.lines;
        }
    }

    /** Finds the best of many ways; its rows are made once and used again by every call. */
    private static final class Finder {
        private static final int SETS = 1 << MOST_NEEDS;
        private static final int ALL_NEEDS = MOST_SHIPS * MOST_NEEDS;
        private static final int MOST_JOINED = 8;
        private static final int PLAN_SHIPS = 4;
        private static final int PLAN_GANGS = 6;
        private static final long[] PLACES = {1L, 120L, 14400L, 1728000L, 207360000L, 24883200000L, 2985984000000L,
            358318080000000L};

        private final int[] openNeeds = new int[MOST_NEEDS];
        private int openCount;
        private final int[] spill = new int[MOST_NEEDS];
        private final int[] cost = new int[SETS];
        private final long[] rank = new long[SETS];

        private final int[] mastNumbers = new int[MOST_JOINED];
        private int mastCount;

        private final int[] workLeft = new int[PLAN_SHIPS];
        private final int[] strengthOn = new int[PLAN_SHIPS];

        private final int[][] holders = new int[MOST_SHIPS + 1][MOST_PIECES];
        private final int[] usable = new int[MOST_PIECES];
        private int usableCount;
        private final int[] reached = new int[MOST_PIECES];
        private final int[] cameFrom = new int[MOST_PIECES];
        private final int[] heldAt = new int[ALL_NEEDS];
        private final int[] waiting = new int[ALL_NEEDS];
        private int mostAfloat;

        // ---- the least waste

        /** The least sum of waste for the needs of a ship that are not fit; chosenFor tells the way. */
        int leastWaste(Yard yard, int number, boolean trees) {
            Ship ship = yard.ships[number];
            listOpenNeeds(ship);
            if (trees) {
                offerTrees(yard, ship);
            } else {
                offerPieces(yard, ship, number);
            }
            return cost[(1 << openCount) - 1];
        }

        private void listOpenNeeds(Ship ship) {
            openCount = 0;
            for (int n = 0; n < ship.needCount && openCount < MOST_NEEDS; n++) {
                if (ship.pieceOf(n) == NONE) {
                    openNeeds[openCount] = n;
                    openCount++;
                }
            }
            Arrays.fill(cost, NONE);
            cost[0] = 0;
            rank[0] = 0;
        }

        private void offerPieces(Yard yard, Ship ship, int number) {
            Text text = yard.warrants.inForce(yard.day);
            for (int p = 0; p < yard.pieceCount; p++) {
                Piece piece = yard.pieces[p];
                if (piece.place == IN_SHED && yard.lineFor(text, piece, number) != NONE) {
                    for (int n = 0; n < openCount; n++) {
                        spill[n] = ship.wasteOf(openNeeds[n], piece);
                    }
                    offer(p);
                }
            }
        }

        private void offerTrees(Yard yard, Ship ship) {
            for (int t = 0; t < yard.treeCount; t++) {
                Tree tree = yard.trees[t];
                if (!tree.felled) {
                    for (int n = 0; n < openCount; n++) {
                        int kind = ship.needKind[openNeeds[n]];
                        int waste = ship.wasteOf(openNeeds[n], tree.lengthAs(kind), tree.thick, tree.bendAs(kind));
                        spill[n] = kind == ROPE ? NONE : waste;
                    }
                    offer(t);
                }
            }
        }

        // Larger sets first: what a set without one need has is then still the best without this piece or tree.
        private void offer(int number) {
            for (int set = (1 << openCount) - 1; set > 0; set--) {
                for (int n = 0; n < openCount; n++) {
                    int rest = set & ~(1 << n);
                    if (rest != set && spill[n] != NONE && cost[rest] != NONE) {
                        improve(set, cost[rest] + spill[n], rank[rest] + number * PLACES[openCount - 1 - n]);
                    }
                }
            }
        }

        // A rank has the numbers of a way as its digits, that of the first need highest: the least rank is the way
        // that the document wants among those of the same waste.
        private void improve(int set, int newCost, long newRank) {
            if (cost[set] == NONE || newCost < cost[set] || newCost == cost[set] && newRank < rank[set]) {
                cost[set] = newCost;
                rank[set] = newRank;
            }
        }

        /** The number that a need has in the way that leastWaste found; NONE if it is fit. */
        int chosenFor(int need) {
            for (int n = 0; n < openCount; n++) {
                if (openNeeds[n] == need) {
                    long digits = rank[(1 << openCount) - 1] / PLACES[openCount - 1 - n];
                    return (int) (digits % MOST_PIECES);
                }
            }
            return NONE;
        }

        // ---- masts of shorter ones

        /** The set of the first masts that makes one for a need with the least waste; NONE. */
        int mastSet(Yard yard, Ship ship, int need) {
            if (!within(need, 0, ship.needCount - 1) || ship.needKind[need] != MAST) {
                return NONE;
            }
            listMasts(yard);
            int found = NONE;
            int least = NONE;
            for (int set = 1; set < 1 << mastCount; set++) {
                int waste = Integer.bitCount(set) < 2 ? NONE : wasteOfJoined(yard, ship, need, set);
                boolean better = found == NONE || waste < least
                        || waste == least && Integer.bitCount(set) < Integer.bitCount(found);
                if (waste != NONE && better) {
                    found = set;
                    least = waste;
                }
            }
            return found;
        }

        private void listMasts(Yard yard) {
            mastCount = 0;
            for (int p = 0; p < yard.pieceCount && mastCount < MOST_JOINED; p++) {
                Piece piece = yard.pieces[p];
                if (piece.kind == MAST && (piece.place == IN_POND || piece.place == IN_SHED)) {
                    mastNumbers[mastCount] = p;
                    mastCount++;
                }
            }
        }

        private int wasteOfJoined(Yard yard, Ship ship, int need, int set) {
            int length = 4;
            int thick = MOST_THICK;
            for (int m = 0; m < mastCount; m++) {
                if ((set >>> m & 1) == 1) {
                    Piece part = yard.pieces[mastNumbers[m]];
                    length += part.length - 4;
                    thick = Math.min(thick, part.thick);
                }
            }
            return ship.wasteOf(need, length, thick, 0);
        }

        // ---- the plan of gangs

        int gangPlan(Yard yard) {
            int shipsLeft = listWork(yard);
            int gangs = Math.min(yard.gangCount, PLAN_GANGS);
            int ways = 1;
            for (int g = 0; g < gangs; g++) {
                ways *= shipsLeft;
            }
            int least = shipsLeft == 0 ? 0 : NONE;
            for (int way = 0; way < ways; way++) {
                int days = daysOfWay(yard, way, gangs, shipsLeft);
                least = days != NONE && (least == NONE || days < least) ? days : least;
            }
            return least;
        }

        private int listWork(Yard yard) {
            int count = 0;
            for (int s = 0; s < yard.shipCount && count < PLAN_SHIPS; s++) {
                if (yard.ships[s].state == ON_SLIP && yard.ships[s].work > 0) {
                    workLeft[count] = yard.ships[s].work;
                    count++;
                }
            }
            return count;
        }

        private int daysOfWay(Yard yard, int way, int gangs, int shipsLeft) {
            Arrays.fill(strengthOn, 0);
            int digits = way;
            for (int g = 0; g < gangs && shipsLeft > 0; g++) {
                strengthOn[digits % shipsLeft] += yard.strength[g];
                digits /= shipsLeft;
            }
            int days = 0;
            for (int s = 0; s < shipsLeft; s++) {
                if (strengthOn[s] <= 0) {
                    return NONE;
                }
                days = Math.max(days, (workLeft[s] + strengthOn[s] - 1) / strengthOn[s]);
            }
            return days;
        }

        // ---- war

        /** The ships that can float, as bits: the most, then the least bits. */
        int floating(Yard yard) {
            usableCount = 0;
            for (int p = 0; p < yard.pieceCount && usableCount < MOST_PIECES; p++) {
                if (isUsable(yard, yard.pieces[p])) {
                    usable[usableCount] = p;
                    usableCount++;
                }
            }
            mostAfloat = 0;
            Arrays.fill(holders[0], NONE);
            decide(yard, 0, 0);
            return mostAfloat;
        }

        private static boolean isUsable(Yard yard, Piece piece) {
            if (piece.place == IN_SHIP && within(piece.ship, 0, yard.shipCount - 1)) {
                return yard.ships[piece.ship].state == ON_SLIP;
            }
            return piece.place == IN_SHED;
        }

        // A row of holders tells for every usable piece which need it is meant for, when the ships up to one are
        // decided.
        private void decide(Yard yard, int ship, int afloat) {
            if (ship >= yard.shipCount || ship >= MOST_SHIPS) {
                int more = Integer.bitCount(afloat) - Integer.bitCount(mostAfloat);
                mostAfloat = more > 0 || more == 0 && afloat < mostAfloat ? afloat : mostAfloat;
                return;
            }
            int state = yard.ships[ship].state;
            System.arraycopy(holders[ship], 0, holders[ship + 1], 0, MOST_PIECES);
            boolean floats = within(state, AFLOAT, AT_SEA);
            if (floats || state == ON_SLIP && seatAll(yard, ship, holders[ship + 1])) {
                decide(yard, ship + 1, afloat | 1 << ship);
            }
            boolean enoughLeft = Integer.bitCount(afloat) + yard.shipCount - ship - 1 >= Integer.bitCount(mostAfloat);
            if (!floats && enoughLeft) {
                // what was tried with this ship is forgotten
                System.arraycopy(holders[ship], 0, holders[ship + 1], 0, MOST_PIECES);
                decide(yard, ship + 1, afloat);
            }
        }

        private boolean seatAll(Yard yard, int ship, int[] holder) {
            for (int n = 0; n < yard.ships[ship].needCount; n++) {
                if (!seat(yard, ship * MOST_NEEDS + n, holder)) {
                    return false;
                }
            }
            return true;
        }

        // Finds a piece for a need, moving others to other pieces where that helps.
        private boolean seat(Yard yard, int need, int[] holder) {
            Arrays.fill(reached, 0);
            heldAt[need] = NONE;
            waiting[0] = need;
            int count = 1;
            for (int w = 0; w < ALL_NEEDS && w < count; w++) {
                Ship ship = yard.ships[waiting[w] / MOST_NEEDS];
                for (int u = 0; u < usableCount; u++) {
                    boolean suits = reached[u] == 0
                            && ship.wasteOf(waiting[w] % MOST_NEEDS, yard.pieces[usable[u]]) != NONE;
                    if (suits) {
                        reached[u] = 1;
                        cameFrom[u] = waiting[w];
                        if (holder[u] == NONE) {
                            moveAlong(holder, u);
                            return true;
                        }
                        if (count < ALL_NEEDS) {
                            heldAt[holder[u]] = u;
                            waiting[count] = holder[u];
                            count++;
                        }
                    }
                }
            }
            return false;
        }

        private void moveAlong(int[] holder, int last) {
            int piece = last;
            for (int n = 0; n < ALL_NEEDS && piece != NONE; n++) {
                holder[piece] = cameFrom[piece];
                piece = heldAt[cameFrom[piece]];
            }
        }
    }
}
