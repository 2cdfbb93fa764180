import java.util.NoSuchElementException;

/** Promises 27 to 35 at their bounds: docks, tides, mooring, sailing, opening, closing, breaking up, dock plans. */
final class BoundsOfSeaTest {
    private static final Check c = new Check();
    private static final Refusals rich = new Refusals(c, Yards::rich);
    private static final Refusals full = new Refusals(c, Yards::full);

    public static void main(String[] args) {
        promise27SillsAndDocks();
        promise28Tides();
        promise29NoSuch();
        promise29JustDeepEnough();
        promise29StatesAndDocks();
        promise29TheDayModulo28();
        promise30States();
        promise30OneThatIsOpen();
        promise31OpenInADockAndSound();
        promise32States();
        promise32WhatIsLeft();
        promise33Tellings();
        promise33OpensAbove80();
        promise33OwesNothing();
        promise33OwesByTheseFacts();
        promise33TheWorstRotAndTheLeastDry();
        promise33Owes2000000000AtMost();
        promise34FromTodayOn();
        promise34BeyondTheLastDay();
        promise34WhatIsNotAsked();
        promise35Refusals();
        promise35ShipsAndDays();
        promise35OutOnTheFirstDay();
        promise35Within300();
        promise35AllOrders();
        c.end();
    }

    /** Ships afloat of these depths, numbered as they stand here. */
    private static OakYard afloat(int... depths) {
        OakYard y = new OakYard();
        for (int n = 0; n < depths.length; n++) {
            y.ship(depths[n], 0, false);
            y.lay(n);
            y.launch(n);
        }
        return y;
    }

    /** Promise 27: SILL - 20 to 40; DOCKS are at most 4; a wrong SILL is told ahead of that. */
    private static void promise27SillsAndDocks() {
        rich.numbers("promise 27: SILL", -20, 40, OakYard::dock);
        OakYard y = new OakYard();
        for (int n = 0; n < 4; n++) {
            c.is("promise 27: dock " + n, y.dock(n == 0 ? -20 : 40), n);
            c.is("promise 27: docks", y.count(13), n + 1);
        }
        full.more("promise 27: a 5th dock", x -> x.dock(0));
        full.number("promise 27: a wrong 5th dock", x -> x.dock(-21));
        y.ship(20, 0, false);
        y.ship(21, 0, false);
        y.ship(40, 0, false);
        y.tide(3, 40);
        c.is("promise 27: a TIDE of 40 and a SILL of -20, DEEP 20", y.lastTide(0, 0, 27), 3);
        c.is("promise 27: DEEP 21", y.lastTide(1, 0, 27), OakYard.NONE);
        c.is("promise 27: a SILL of 40 alone, DEEP 40", y.lastTide(2, 3, 27), 27);
    }

    /** Promise 28: at is 0 to 27, a level 0 to 40; each level alone. */
    private static void promise28Tides() {
        rich.numbers("promise 28: at", 0, 27, (y, n) -> y.tide(n, 5));
        rich.numbers("promise 28: level", 0, 40, (y, n) -> y.tide(5, n));
        rich.number("promise 28: both wrong", y -> y.tide(28, 41));
        for (int at = 0; at < 28; at++) {
            OakYard y = afloat(1);
            y.dock(0);
            y.tide(at, 1);
            c.is("promise 28: TIDE at " + at + " alone", y.lastTide(0, 0, 27), at);
            y.tide(at, 0);
            c.is("promise 28: TIDE 0 again", y.lastTide(0, 0, 27), OakYard.NONE);
        }
    }

    /** Promise 29: there is no such SHIP or DOCK, in or out. */
    private static void promise29NoSuch() {
        for (boolean in : new boolean[] {true, false}) {
            rich.indices("promise 29: SHIP", 7, (y, n) -> y.moor(n, 0, in));
            rich.indices("promise 29: DOCK", 2, (y, n) -> y.moor(3, n, in));
            rich.index("promise 29: no SHIP and no DOCK", y -> y.moor(7, 2, in));
        }
    }

    /** Promise 29: TIDE and SILL together are not less than DEEP, going in and going out. */
    private static void promise29JustDeepEnough() {
        for (int deep = 9; deep <= 11; deep++) {
            int each = deep;
            c.is("promise 29: in, DEEP " + deep + " by 10", moored(each, false).moor(0, 0, true), deep <= 10);
            c.is("promise 29: out, DEEP " + deep + " by 10", moored(each, true).moor(0, 0, false), deep <= 10);
        }
        new Refusals(c, () -> moored(11, false)).no("promise 29: in, too low by 1", y -> y.moor(0, 0, true));
        new Refusals(c, () -> moored(11, true)).no("promise 29: out, too low by 1", y -> y.moor(0, 0, false));
        OakYard y = moored(10, true);
        c.is("promise 29: out", y.moor(0, 0, false), true);
        c.is("promise 29: afloat", y.led(0, 0), 2);
        c.is("promise 29: in no DOCK", y.led(0, 4), OakYard.NONE);
        c.is("promise 29: in again on that DAY", y.moor(0, 0, true), true);
        c.is("promise 29: in a DOCK", y.led(0, 0), 3);
        c.is("promise 29: its DOCK", y.led(0, 4), 0);
    }

    /** A dock whose tide and sill together are 10 today, and a ship afloat or in it. */
    private static OakYard moored(int deep, boolean in) {
        OakYard y = afloat(deep);
        y.dock(-5);
        y.tide(0, 40);
        if (in) {
            y.moor(0, 0, true);
        }
        y.tide(0, 15);
        return y;
    }

    /** Promise 29: in from afloat alone, into a DOCK that is free; out of the one in which it is alone. */
    private static void promise29StatesAndDocks() {
        for (int ship = 1; ship <= 5; ship++) {
            int each = ship;
            rich.no("promise 29: ship " + ship + " is not afloat", y -> y.moor(each, 1, true));
        }
        rich.no("promise 29: a DOCK that is not free", y -> y.moor(0, 0, true));
        for (int ship = 0; ship <= 6; ship++) {
            int each = ship;
            rich.no("promise 29: ship " + ship + " is not in that DOCK", y -> y.moor(each, 1, false));
        }
        OakYard y = Yards.rich();
        c.is("promise 29: into one that is free", y.moor(0, 1, true), true);
        c.is("promise 29: not free now", y.moor(6, 1, true), false);
        y.breaks(0);
        c.is("promise 29: free again", y.moor(6, 1, true), true);
        c.is("promise 29: one in a DOCK into another", y.moor(3, 1, true), false);
    }

    /** Promise 29: the TIDE of a DAY by DAY modulo 28. */
    private static void promise29TheDayModulo28() {
        OakYard y = afloat(5);
        y.dock(0);
        y.tide(0, 5);
        for (int day = 0; day <= 57; day++) {
            boolean may = day % 28 == 0;
            c.is("promise 29: in on day " + day, y.moor(0, 0, true), may);
            c.is("promise 29: out on day " + day, y.moor(0, 0, false), may);
            y.days(1);
        }
        OakYard last = afloat(5);
        last.dock(0);
        last.tide(4000 % 28, 5);
        for (int n = 0; n < 20; n++) {
            last.days(200);
        }
        c.is("promise 29: in on day 4000", last.moor(0, 0, true), true);
        OakYard ahead = afloat(5);
        ahead.dock(0);
        ahead.tide(27, 5);
        ahead.days(27);
        c.is("promise 29: in on day 27", ahead.moor(0, 0, true), true);
        ahead.days(1);
        c.is("promise 29: out on day 28", ahead.moor(0, 0, false), false);
        ahead.days(27);
        c.is("promise 29: out on day 55", ahead.moor(0, 0, false), true);
    }

    /** Promise 30: to sea from afloat alone, back from sea alone; false, and nothing happens, else. */
    private static void promise30States() {
        rich.indices("promise 30: SHIP", 7, (y, n) -> y.sail(n, true));
        rich.indices("promise 30: SHIP", 7, (y, n) -> y.sail(n, false));
        for (int ship = 1; ship <= 5; ship++) {
            int each = ship;
            rich.no("promise 30: to sea, ship " + ship, y -> y.sail(each, true));
        }
        for (int ship : new int[] {0, 1, 2, 3, 5, 6}) {
            rich.no("promise 30: back, ship " + ship, y -> y.sail(ship, false));
        }
        OakYard y = Yards.rich();
        c.is("promise 30: to sea", y.sail(6, true), true);
        c.is("promise 30: at sea", y.led(6, 0), 4);
        c.is("promise 30: back", y.sail(4, false), true);
        c.is("promise 30: afloat", y.led(4, 0), 2);
    }

    /** Promise 30: one that is OPEN may not go to sea; closed it may. */
    private static void promise30OneThatIsOpen() {
        rich.no("promise 30: one that is OPEN", y -> y.sail(0, true));
        OakYard y = Yards.rich();
        y.moor(0, 1, true);
        c.is("promise 30: closed", y.shut(0), true);
        y.moor(0, 1, false);
        c.is("promise 30: one that is OPEN no more", y.sail(0, true), true);
    }

    /** Promise 31: false, and nothing happens, if it is not OPEN, not in a DOCK, or has ROT above 80 in truth. */
    private static void promise31OpenInADockAndSound() {
        rich.indices("promise 31: SHIP", 7, (y, n) -> y.shut(n));
        for (int ship = 0; ship <= 6; ship++) {
            int each = ship;
            rich.no("promise 31: ship " + ship, y -> y.shut(each));
        }
        for (int rot = 79; rot <= 82; rot++) {
            int each = rot;
            c.is("promise 31: the worst ROT", openInDock(rot).led(0, 10), rot);
            c.is("promise 31: ROT " + rot, openInDock(rot).shut(0), rot <= 80);
            if (rot > 80) {
                new Refusals(c, () -> openInDock(each)).no("promise 31: ROT " + rot, y -> y.shut(0));
            }
        }
        OakYard y = openInDock(80);
        y.shut(0);
        c.is("promise 31: OPEN no more", y.led(0, 6), 0);
        c.is("promise 31: twice", y.shut(0), false);
    }

    /** A ship that opened and is in a dock now, with another plank of such a rot in it that shows nothing of it. */
    private static OakYard openInDock(int rot) {
        OakYard y = opened(true);
        y.dock(20);
        y.moor(0, 0, true);
        y.out(0, 0);
        y.shed(y.buy(0, 0, 10, 10, 0));
        y.fit(0, 0, 1, true);
        y.days(rot);
        return y;
    }

    /** Day 81: a ship that has just opened at sea. */
    private static OakYard opened(boolean hired) {
        OakYard y = atSea(hired);
        y.days(81);
        return y;
    }

    /** A ship at sea with one plank that never dries: its rot is the day. */
    private static OakYard atSea(boolean hired) {
        OakYard y = new OakYard();
        y.buy(0, 0, 10, 10, 0);
        y.shed(0);
        y.ship(5, 0, hired);
        y.need(0, 0, 10, 10, 0);
        y.lay(0);
        y.fit(0, 0, 0, true);
        y.launch(0);
        y.sail(0, true);
        return y;
    }

    /** Promise 32: NONE, and nothing happens, but of one afloat, in a DOCK or on a SLIP. */
    private static void promise32States() {
        rich.indices("promise 32: SHIP", 7, (y, n) -> y.breaks(n));
        rich.none("promise 32: on paper", y -> y.breaks(2));
        rich.none("promise 32: at sea", y -> y.breaks(4));
        rich.none("promise 32: broken up", y -> y.breaks(5));
        int[][] due = {{0, 1}, {1, 3}, {3, 0}, {6, 0}};
        for (int[] ship : due) {
            OakYard y = Yards.rich();
            int pond = y.count(5);
            c.is("promise 32: ship " + ship[0], y.breaks(ship[0]), ship[1]);
            c.is("promise 32: broken up", y.led(ship[0], 0), 5);
            c.is("promise 32: in the pond", y.count(5), pond + ship[1]);
        }
    }

    /** Promise 32: its NEEDS are FIT by none, it is in no DOCK and on no SLIP. */
    private static void promise32WhatIsLeft() {
        OakYard y = Yards.rich();
        y.breaks(1);
        y.breaks(3);
        c.is("promise 32: NEEDS", y.led(1, 2), 5);
        c.is("promise 32: FIT", y.led(1, 3), 0);
        c.is("promise 32: BAD", y.led(1, 8), 0);
        c.is("promise 32: on SLIPS", y.count(12), 0);
        c.is("promise 32: in no DOCK", y.led(3, 4), OakYard.NONE);
        c.is("promise 32: the DOCK is free", y.moor(0, 0, true), true);
        int[] due = {1, 1, 20, 10, 4, 1, 0, 14, 0, -1, 102, -1, -1, 0, 102};
        for (int what = 0; what < due.length; what++) {
            c.is("promise 32: of its KNEE " + what, y.piece(7, what), due[what]);
        }
    }

    /** Promise 33: what is 0 to 11; no such SHIP is told ahead of that; NONE without a DOCK and a DAY. */
    private static void promise33Tellings() {
        rich.indices("promise 33: SHIP", 7, (y, n) -> y.led(n, 0));
        for (int what : new int[] {-1, 12, Integer.MIN_VALUE, Integer.MAX_VALUE}) {
            rich.refuses("promise 33: what " + what, NoSuchElementException.class, y -> y.led(0, what));
            rich.index("promise 33: no SHIP and what " + what, y -> y.led(7, what));
        }
        OakYard y = Yards.rich();
        int[][] due = {{2, 0, 1, 1, -1, 0, 1, 9, 1, 5, 14, 0}, {1, 30, 5, 3, -1, -1, 0, 0, 1, 9, 14, 2},
            {0, 7, 2, 0, -1, -1, 0, 0, 0, 6, 0, 0}, {3, 0, 0, 0, 0, 103, 0, 0, 0, 9, 0, 0},
            {4, 0, 0, 0, -1, 103, 0, 0, 0, 12, 0, 0}, {5, 0, 0, 0, -1, 103, 0, 0, 0, 15, 0, 0},
            {2, 0, 0, 0, -1, 103, 0, 0, 0, 18, 0, 0}};
        for (int ship = 0; ship < due.length; ship++) {
            for (int what = 0; what <= 11; what++) {
                c.is("promise 33: of ship " + ship + " what " + what, y.led(ship, what), due[ship][what]);
            }
        }
        rich.leaves("promise 33: asking", x -> x.led(0, 10));
    }

    /** Promise 33: one at sea, a PIECE of which has ROT above 80, OPENS by a DAY: it is afloat again, and OPEN. */
    private static void promise33OpensAbove80() {
        OakYard y = atSea(true);
        y.days(80);
        c.is("promise 33: ROT 80", y.led(0, 10), 80);
        c.is("promise 33: at sea", y.led(0, 0), 4);
        c.is("promise 33: not OPEN", y.led(0, 6), 0);
        y.days(1);
        c.is("promise 33: ROT 81", y.led(0, 10), 81);
        c.is("promise 33: afloat", y.led(0, 0), 2);
        c.is("promise 33: OPEN", y.led(0, 6), 1);
        c.is("promise 33: opened in all", y.count(18), 1);
        OakYard home = atSea(true);
        home.sail(0, false);
        home.days(200);
        c.is("promise 33: afloat it does not open", home.led(0, 6), 0);
        OakYard empty = new OakYard();
        empty.ship(5, 0, true);
        empty.lay(0);
        empty.launch(0);
        empty.sail(0, true);
        empty.days(200);
        c.is("promise 33: without PIECES it never opens", empty.led(0, 0), 4);
    }

    /** Promise 33: it owes nothing if it is not hired, without a text, and by a text without an owe LINE that holds. */
    private static void promise33OwesNothing() {
        c.is("promise 33: without a text", opened(true).led(0, 7), 0);
        String[] texts = {"", "look 5; chip 9; fit plank", "owe 0", "owe 5 if not hired", "owe 5; owe 6"};
        int[] dues = {0, 0, 0, 0, 11};
        for (int n = 0; n < texts.length; n++) {
            for (boolean hired : new boolean[] {true, false}) {
                OakYard y = atSea(hired);
                Check.warrant(y, texts[n], 81);
                Check.warrant(y, "owe 99", 82);
                Check.warrant(y, "owe 77", 80);
                y.days(100);
                c.is("promise 33: hired " + hired + " by '" + texts[n] + "'", y.led(0, 7), hired ? dues[n] : 0);
            }
        }
    }

    /** Promise 33: of owe LINES: hired, age since launched, dry, rot, gangs at the very number; the others 0 or no. */
    private static void promise33OwesByTheseFacts() {
        String[] facts = {"age", "dry", "rot", "gangs", "thick", "long"};
        int[] values = {78, 6, 81, 2, 0, 0};
        for (int n = 0; n < facts.length; n++) {
            owes(facts[n] + "<" + values[n], 0);
            owes(facts[n] + "<" + (values[n] + 1), 5);
            owes(facts[n] + ">" + values[n], 0);
            owes("not " + facts[n] + ">" + values[n], 5);
            if (values[n] > 0) {
                owes(facts[n] + ">" + (values[n] - 1), 5);
            }
        }
        owes("hired", 5);
        owes("oak or elm or fir or seen", 0);
        owes("not seen and not oak", 5);
    }

    /** What a ship owes by that condition: 9 days old its plank (DRY 6) went in, it was launched 3 days later. */
    private static void owes(String condition, int due) {
        OakYard y = new OakYard();
        y.buy(0, 0, 10, 10, 0);
        y.look(0);
        y.days(3);
        y.shed(0);
        y.days(6);
        y.ship(5, 0, true);
        y.need(0, 0, 10, 10, 0);
        y.lay(0);
        y.fit(0, 0, 0, true);
        y.gang(1);
        y.gang(1);
        y.works(0, 0);
        y.works(1, 0);
        y.days(3);
        y.launch(0);
        y.sail(0, true);
        Check.warrant(y, "owe 5 if " + condition, 12);
        y.days(77);
        c.is("promise 33: nothing owed with ROT 80", y.led(0, 7), 0);
        y.why(0, 0, 89);
        y.days(1);
        c.is("promise 33: owed if " + condition, y.led(0, 7), due);
    }

    /** Promise 33: the worst ROT and the least DRY of its PIECES, whichever NEED they are in. */
    private static void promise33TheWorstRotAndTheLeastDry() {
        for (int first = 0; first < 3; first++) {
            OakYard y = new OakYard();
            Check.warrant(y, "owe 1 if dry < 10; owe 2 if dry < 9; owe 4 if rot > 81; owe 8 if rot > 80", 0);
            for (int p = 0; p < 3; p++) {
                y.buy(0, 0, 10, 10, 0);
            }
            y.shed(1);
            y.days(11);
            y.shed(0);
            y.days(9);
            y.shed(2);
            y.days(9);
            y.ship(5, 0, true);
            for (int n = 0; n < 3; n++) {
                y.need(0, 0, 10, 10, 0);
            }
            y.lay(0);
            for (int n = 0; n < 3; n++) {
                y.fit(0, n, (first + n) % 3, true);
            }
            y.launch(0);
            y.sail(0, true);
            int rot = y.led(0, 10);
            c.is("promise 33: the worst ROT", rot, 2);
            y.days(80 - rot);
            c.is("promise 33: not OPEN with ROT 80", y.led(0, 6), 0);
            y.days(1);
            c.is("promise 33: owed by the worst ROT 81 and the least DRY 9", y.led(0, 7), 1 + 8);
        }
    }

    /**
     * Promise 33: 2000000000 in all at most. (No 512 calls come so far: here the class, which does not count them, is
     * asked on.)
     */
    private static void promise33Owes2000000000AtMost() {
        OakYard y = atSea(true);
        Check.warrant(y, "owe 99999;".repeat(11) + "owe 99999", 0);
        y.dock(20);
        y.days(81);
        for (int times = 1; times <= 1668; times++) {
            c.is("promise 33: owed at opening " + times, y.led(0, 7), (int) Math.min(2000000000L, times * 1199988L));
            y.moor(0, 0, true);
            y.out(0, 0);
            y.shut(0);
            y.shed(0);
            y.fit(0, 0, 0, true);
            y.moor(0, 0, false);
            y.sail(0, true);
            y.days(1);
        }
    }

    /** Promise 34: the latest DAY, TODAY on; NONE ahead of it. */
    private static void promise34FromTodayOn() {
        rich.indices("promise 34: SHIP", 7, (y, n) -> y.lastTide(n, 0, 200));
        rich.indices("promise 34: DOCK", 2, (y, n) -> y.lastTide(0, n, 200));
        rich.leaves("promise 34: asking", y -> y.lastTide(0, 1, 200));
        OakYard y = afloat(7);
        y.dock(0);
        y.tide(12, 7);
        y.days(40);
        int[][] due = {{Integer.MIN_VALUE, -1}, {-1, -1}, {0, -1}, {12, -1}, {39, -1}, {40, 40}, {41, 40}, {67, 40},
            {68, 68}, {69, 68}, {95, 68}, {96, 96}};
        for (int[] day : due) {
            c.is("promise 34: up to " + day[0], y.lastTide(0, 0, day[0]), day[1]);
        }
        y.days(1);
        c.is("promise 34: yesterday's no more", y.lastTide(0, 0, 67), OakYard.NONE);
        c.is("promise 34: 27 days on", y.lastTide(0, 0, 68), 68);
        y.tide(12, 6);
        c.is("promise 34: too low by 1", y.lastTide(0, 0, 96), OakYard.NONE);
    }

    /** Promise 34: beyond 4000, too, up to the last number; DAY modulo 28 there as well. */
    private static void promise34BeyondTheLastDay() {
        int last = Integer.MAX_VALUE % 28;
        for (int at = 0; at < 28; at++) {
            OakYard y = afloat(7);
            y.dock(0);
            y.tide(at, 7);
            c.is("promise 34: up to the last number, TIDE at " + at, y.lastTide(0, 0, Integer.MAX_VALUE),
                    Integer.MAX_VALUE - Math.floorMod(last - at, 28));
            c.is("promise 34: up to 4001", y.lastTide(0, 0, 4001), 4001 - Math.floorMod(4001 - at, 28));
        }
    }

    /** Promise 34: TIDE, SILL and DEEP alone: the SHIP may be in any state, the DOCK not free. */
    private static void promise34WhatIsNotAsked() {
        OakYard y = Yards.rich();
        for (int ship = 0; ship <= 3; ship++) {
            c.is("promise 34: ship " + ship, y.lastTide(ship, 0, 130), 130);
        }
        c.is("promise 34: at sea, DEEP 12", y.lastTide(4, 0, 130), 129);
        c.is("promise 34: broken up, DEEP 15", y.lastTide(5, 0, 128), 116);
    }

    /** Promise 35: no such DOCK ahead of the others; bits of no SHIP, more than 4, days not 1 to 60. */
    private static void promise35Refusals() {
        rich.indices("promise 35: DOCK", 2, (y, n) -> y.docks(n, 1, 5));
        rich.numbers("promise 35: days", 1, 60, (y, n) -> y.docks(0, 1, n));
        rich.numbers("promise 35: days of no SHIPS", 1, 60, (y, n) -> y.docks(0, 0, n));
        for (int set : new int[] {128, 129, 256, -1, -128, Integer.MIN_VALUE, Integer.MAX_VALUE, 31, 62, 124, 127}) {
            rich.number("promise 35: set " + set, y -> y.docks(0, set, 5));
        }
        rich.index("promise 35: all wrong", y -> y.docks(2, -1, 0));
        rich.leaves("promise 35: asking", y -> y.docks(0, 65, 5));
        full.number("promise 35: a 9th bit of 8 SHIPS", y -> y.docks(0, 256, 5));
        full.none("promise 35: the 8th SHIP is not afloat", y -> y.docks(0, 128, 5));
        new Refusals(c, BoundsOfSeaTest::dockAlone).number("promise 35: bits without SHIPS", y -> y.docks(0, 1, 5));
    }

    private static OakYard dockAlone() {
        OakYard y = new OakYard();
        y.dock(5);
        return y;
    }

    /** Promise 35: 0 without SHIPS; NONE if one is not afloat; 1 to 4 SHIPS; in TODAY, out on the first DAY after. */
    private static void promise35ShipsAndDays() {
        OakYard y = Yards.rich();
        c.is("promise 35: without SHIPS", y.docks(0, 0, 60), 0);
        for (int ship = 1; ship <= 5; ship++) {
            c.is("promise 35: ship " + ship + " is not afloat", y.docks(0, 1 << ship, 1), OakYard.NONE);
            c.is("promise 35: ship " + ship + " with one afloat", y.docks(0, 1 | 1 << ship, 1), OakYard.NONE);
        }
        OakYard any = afloat(5, 5, 5, 5, 5);
        any.dock(5);
        int[] sets = {0, 1, 3, 7, 15, 30};
        for (int set : sets) {
            int ships = Integer.bitCount(set);
            for (int days : new int[] {1, 2, 59, 60}) {
                c.is("promise 35: " + ships + " SHIPS of " + days, any.docks(0, set, days), ships * days);
            }
        }
    }

    /** Promise 35: in on a DAY on which it may, so many days in it, out on the first DAY from then on on which it may. */
    private static void promise35OutOnTheFirstDay() {
        OakYard y = afloat(8);
        y.dock(0);
        c.is("promise 35: it never may", y.docks(0, 1, 1), OakYard.NONE);
        y.tide(3, 8);
        y.tide(7, 8);
        int[][] due = {{1, 7}, {3, 7}, {4, 7}, {5, 31}, {24, 31}, {25, 31}, {28, 31}, {29, 35}, {32, 35}, {33, 59},
            {60, 63}};
        for (int[] days : due) {
            c.is("promise 35: " + days[0] + " days", y.docks(0, 1, days[0]), days[1]);
        }
        y.days(3);
        c.is("promise 35: in TODAY", y.docks(0, 1, 4), 4);
        y.days(1);
        c.is("promise 35: in 3 days later", y.docks(0, 1, 4), 27);
        y.days(24);
        c.is("promise 35: DAY 28", y.docks(0, 1, 4), 7);
        OakYard two = afloat(8, 8);
        two.dock(0);
        two.tide(3, 8);
        c.is("promise 35: on the DAY one is out the next may come in", two.docks(0, 3, 28), 59);
    }

    /** Promise 35: all within 300 DAYS; one more is none. */
    private static void promise35Within300() {
        int[] dues = {299, 300, OakYard.NONE};
        for (int n = 0; n < dues.length; n++) {
            OakYard y = afloat(20, 10, 20, 10);
            y.dock(10);
            y.tide(19 + n, 10);
            c.is("promise 35: TIDE at " + (19 + n), y.docks(0, 15, 57), dues[n]);
            y.days(28);
            c.is("promise 35: 28 days later", y.docks(0, 15, 57), dues[n]);
        }
        OakYard y = afloat(20, 10, 20, 10);
        y.dock(10);
        y.tide(21, 10);
        y.days(1);
        c.is("promise 35: within 300 from tomorrow on", y.docks(0, 15, 57), 300);
    }

    /** Promise 35: the least of all orders, whichever SHIP has the least number. */
    private static void promise35AllOrders() {
        int[][] depths = {{8, 5, 5}, {5, 8, 5}, {5, 5, 8}};
        for (int n = 0; n < depths.length; n++) {
            OakYard y = afloat(depths[n]);
            y.dock(5);
            y.tide(4, 3);
            y.tide(6, 3);
            c.is("promise 35: 2 days each, the deep one last, in on 4", y.docks(0, 7, 2), 6);
            c.is("promise 35: 3 days each, the deep one last, in on 6", y.docks(0, 7, 3), 32);
            c.is("promise 35: 4 days each, the deep one second", y.docks(0, 7, 4), 36);
            c.is("promise 35: 7 days each, the deep one first", y.docks(0, 7, 7), 46);
        }
    }
}
