import java.util.NoSuchElementException;

/** Promises 27 to 35: docks, tides, mooring, sailing, opening, closing, breaking up, and the plans of docks. */
final class SeaTest {
    private static final Check c = new Check();

    public static void main(String[] args) {
        docksAndTides();
        mooring();
        sailing();
        opening();
        owing();
        closing();
        breaking();
        telling();
        lastTide();
        dockPlan();
        dockPlanEdges();
        c.end();
    }

    /** A yard with ships afloat of these depths. */
    private static OakYard afloat(int... depths) {
        OakYard y = new OakYard();
        y.slips(8);
        for (int n = 0; n < depths.length; n++) {
            y.ship(depths[n], 0, false);
            y.lay(n);
            y.launch(n);
        }
        return y;
    }

    private static void docksAndTides() {
        OakYard y = new OakYard();
        c.refusesNumber("dock(-21)", () -> y.dock(-21));
        c.refusesNumber("dock(41)", () -> y.dock(41));
        c.is("the first dock", y.dock(-20), 0);
        c.is("the second dock", y.dock(40), 1);
        y.dock(0);
        y.dock(0);
        c.refusesMore("a 5th dock", () -> y.dock(0));
        c.refusesNumber("a wrong 5th dock", () -> y.dock(41));
        c.is("docks", y.count(13), 4);
        c.refusesNumber("tide(-1, 0)", () -> y.tide(-1, 0));
        c.refusesNumber("tide(28, 0)", () -> y.tide(28, 0));
        c.refusesNumber("tide(0, -1)", () -> y.tide(0, -1));
        c.refusesNumber("tide(0, 41)", () -> y.tide(0, 41));
    }

    private static void mooring() {
        OakYard y = afloat(10, 3);
        y.dock(2);
        y.dock(10);
        c.is("the tide is too low", y.moor(0, 0, true), false);
        c.is("the sill alone is enough", y.moor(0, 1, true), true);
        c.is("in a dock", y.led(0, 0), 3);
        c.is("its dock", y.led(0, 4), 1);
        c.is("a dock that is not free", y.moor(1, 1, true), false);
        c.is("in again", y.moor(0, 1, true), false);
        c.is("out of another dock", y.moor(0, 0, false), false);
        c.is("out of one in which it is not", y.moor(1, 1, false), false);
        c.is("out", y.moor(0, 1, false), true);
        c.is("afloat", y.led(0, 0), 2);
        c.is("no dock", y.led(0, 4), OakYard.NONE);
        y.tide(3, 8);
        y.days(3);
        c.is("in at the tide", y.moor(0, 0, true), true);
        y.days(1);
        c.is("out without the tide", y.moor(0, 0, false), false);
        y.days(27);
        c.is("out at the next tide", y.moor(0, 0, false), true);
        y.ship(1, 0, false);
        c.is("a ship on paper", y.moor(2, 1, true), false);
        y.lay(2);
        c.is("a ship on the slip", y.moor(2, 1, true), false);
        y.sail(1, true);
        c.is("a ship at sea", y.moor(1, 1, true), false);
        c.refusesIndex("moor(3, 0)", () -> y.moor(3, 0, true));
        c.refusesIndex("moor(0, 2)", () -> y.moor(0, 2, true));
        c.refusesIndex("moor(0, -1)", () -> y.moor(0, -1, false));
        c.refusesIndex("moor(-1, 0)", () -> y.moor(-1, 0, false));
    }

    private static void sailing() {
        OakYard y = afloat(5);
        y.ship(5, 0, false);
        c.is("back without being at sea", y.sail(0, false), false);
        c.is("to sea from paper", y.sail(1, true), false);
        c.is("to sea", y.sail(0, true), true);
        c.is("at sea", y.led(0, 0), 4);
        c.is("to sea again", y.sail(0, true), false);
        c.is("back", y.sail(0, false), true);
        c.is("afloat", y.led(0, 0), 2);
        y.dock(5);
        y.moor(0, 0, true);
        c.is("to sea from a dock", y.sail(0, true), false);
        c.is("back from a dock", y.sail(0, false), false);
        c.refusesIndex("sail(2)", () -> y.sail(2, true));
        c.refusesIndex("sail(-1)", () -> y.sail(-1, false));
    }

    /** A yard whose ship 0 is at sea with a piece that never dries enough: its rot is 1 more every day. */
    private static OakYard atSea(boolean hired, String text) {
        OakYard y = new OakYard();
        Check.warrant(y, text, 0);
        y.buy(0, 0, 10, 10, 0);
        y.shed(0);
        y.ship(5, 0, hired);
        y.need(0, 0, 5, 5, 0);
        y.lay(0);
        y.fit(0, 0, 0, true);
        y.launch(0);
        y.sail(0, true);
        y.dock(10);
        return y;
    }

    private static void opening() {
        OakYard y = atSea(false, "owe 100");
        y.days(80);
        c.is("a rot of 80", y.piece(0, 7), 80);
        c.is("does not open", y.led(0, 6), 0);
        c.is("at sea", y.led(0, 0), 4);
        y.days(1);
        c.is("a rot of 81 opens", y.led(0, 6), 1);
        c.is("afloat again", y.led(0, 0), 2);
        c.is("none owes who is not hired", y.led(0, 7), 0);
        c.is("opened in all", y.count(18), 1);
        c.is("an open ship may not go to sea", y.sail(0, true), false);
        y.days(5);
        c.is("it opens once", y.count(18), 1);
        OakYard home = atSea(true, "owe 100");
        home.sail(0, false);
        home.days(90);
        c.is("afloat it does not open", home.led(0, 6), 0);
        home.sail(0, true);
        c.is("at sea it opens by the day", home.led(0, 6), 0);
        home.days(1);
        c.is("then", home.led(0, 6), 1);
        c.is("and owes", home.led(0, 7), 100);
    }

    private static void owing() {
        owes("owe 100 if hired; owe 20 if not hired; owe 3; chip 7; look 5", 103);
        owes("owe 1 if age > 80; owe 2 if age < 81; owe 4 if age < 82", 5);
        owes("owe 1 if dry < 1; owe 2 if dry > 0", 1);
        owes("owe 1 if rot > 80; owe 2 if rot > 81; owe 4 if rot < 82", 5);
        owes("owe 1 if gangs > 0; owe 2 if gangs < 1", 2);
        owes("owe 1 if oak or elm or fir or seen; owe 2 if thick > 0; owe 4 if long > 0; owe 8 if thick < 1", 8);
        owes("", 0);
        OakYard late = atSea(true, "owe 1");
        Check.warrant(late, "owe 2", 81);
        Check.warrant(late, "owe 4", 82);
        late.days(100);
        c.is("by the text of that day", late.led(0, 7), 2);
        OakYard dry = new OakYard();
        Check.warrant(dry, "fit plank; fit rope; owe 1 if dry > 6; owe 2 if dry > 7; owe 4 if dry < 1", 0);
        dry.buy(0, 0, 10, 10, 0);
        dry.buy(0, 0, 10, 10, 0);
        dry.shed(0);
        dry.days(3);
        dry.shed(1);
        dry.days(7);
        sendOut(dry, 2);
        dry.days(81);
        c.is("the least dry as they went in", dry.led(0, 7), 1);
        OakYard first = new OakYard();
        Check.warrant(first, "owe 1 if dry < 4; owe 2 if dry < 3; owe 4 if age < 82; owe 8 if age > 80", 0);
        first.buy(0, 0, 10, 10, 0);
        first.buy(0, 0, 10, 10, 0);
        first.shed(1);
        first.days(5);
        first.shed(0);
        first.days(3);
        sendOut(first, 2);
        first.days(81);
        c.is("the least dry is that of the first need, the age from the day of launching", first.led(0, 7), 13);
        OakYard rope = new OakYard();
        Check.warrant(rope, "owe 1 if dry < 1; owe 2 if dry > 0", 0);
        rope.buy(0, 0, 10, 10, 0);
        rope.buy(3, 0, 10, 10, 0);
        rope.shed(0);
        rope.shed(1);
        rope.days(5);
        rope.ship(5, 0, true);
        rope.need(0, 0, 5, 5, 0);
        rope.need(0, 3, 5, 5, 0);
        rope.lay(0);
        rope.fit(0, 0, 0, true);
        rope.fit(0, 1, 1, true);
        rope.launch(0);
        rope.sail(0, true);
        rope.days(81);
        c.is("a rope is a piece too, and never dry", rope.led(0, 7), 1);
        OakYard again = atSea(true, "owe 1 if gangs > 1; owe 2 if gangs > 2");
        again.gang(1);
        again.gang(1);
        again.works(0, 0);
        again.works(1, 0);
        again.days(81);
        c.is("gangs of the ship", again.led(0, 7), 1);
    }

    private static void sendOut(OakYard y, int planks) {
        y.ship(5, 0, true);
        for (int n = 0; n < planks; n++) {
            y.need(0, 0, 5, 5, 0);
        }
        y.lay(0);
        for (int n = 0; n < planks; n++) {
            y.fit(0, n, n, true);
        }
        y.launch(0);
        y.sail(0, true);
    }

    private static void owes(String text, int due) {
        OakYard y = atSea(true, text);
        y.days(81);
        c.is("opened by '" + text + "'", y.count(18), 1);
        c.is("owes by '" + text + "'", y.led(0, 7), due);
    }

    private static void closing() {
        OakYard y = atSea(true, "owe 7");
        c.is("one that is not open", y.shut(0), false);
        y.days(81);
        c.is("one afloat", y.shut(0), false);
        y.moor(0, 0, true);
        c.is("one with a rotten piece", y.shut(0), false);
        y.out(0, 0);
        c.is("one in a dock, without it", y.shut(0), true);
        c.is("it is open no more", y.led(0, 6), 0);
        c.is("again", y.shut(0), false);
        y.shed(0);
        c.is("the rotten piece goes in again", y.fit(0, 0, 0, true), true);
        y.moor(0, 0, false);
        c.is("to sea again", y.sail(0, true), true);
        y.days(1);
        c.is("opened in all", y.count(18), 2);
        c.is("it owes more", y.led(0, 7), 14);
        OakYard edge = atSea(false, "");
        edge.days(79);
        edge.sail(0, false);
        edge.moor(0, 0, true);
        c.is("not open with a rot of 79", edge.shut(0), false);
        edge.moor(0, 0, false);
        edge.sail(0, true);
        edge.days(2);
        edge.moor(0, 0, true);
        c.is("a rot of 81", edge.shut(0), false);
        edge.out(0, 0);
        edge.shed(edge.buy(0, 0, 10, 10, 0));
        edge.fit(0, 0, 1, true);
        edge.days(79);
        c.is("another piece", edge.piece(1, 7), 79);
        edge.days(1);
        c.is("its rot", edge.led(0, 10), 80);
        c.is("closed with a rot of 80", edge.shut(0), true);
        c.refusesIndex("shut(1)", () -> y.shut(1));
        c.refusesIndex("shut(-1)", () -> y.shut(-1));
    }

    private static void breaking() {
        OakYard y = new OakYard();
        for (int p = 0; p < 3; p++) {
            y.buy(0, 0, 10, 10, 0);
            y.shed(p);
        }
        y.ship(5, 0, false);
        y.need(0, 0, 5, 5, 0);
        y.need(0, 0, 5, 5, 0);
        y.need(0, 0, 5, 5, 0);
        c.is("one on paper", y.breaks(0), OakYard.NONE);
        y.lay(0);
        y.fit(0, 0, 2, true);
        y.fit(0, 2, 1, true);
        c.is("one on a slip", y.breaks(0), 2);
        c.is("broken up", y.led(0, 0), 5);
        c.is("its needs are not fit", y.led(0, 3), 0);
        c.is("bad pieces in it", y.led(0, 8), 0);
        c.is("the slip is free", y.count(12), 0);
        c.is("they are in the pond", y.count(5), 2);
        c.is("in no ship", y.piece(2, 11), OakYard.NONE);
        c.is("for no need", y.piece(2, 12), OakYard.NONE);
        c.is("again", y.breaks(0), OakYard.NONE);
        y.ship(5, 0, false);
        y.lay(1);
        y.launch(1);
        y.dock(10);
        y.moor(1, 0, true);
        c.is("one in a dock", y.breaks(1), 0);
        c.is("in no dock", y.led(1, 4), OakYard.NONE);
        y.ship(5, 0, false);
        y.lay(2);
        y.launch(2);
        c.is("its dock is free", y.moor(2, 0, true), true);
        y.moor(2, 0, false);
        y.sail(2, true);
        c.is("one at sea", y.breaks(2), OakYard.NONE);
        y.sail(2, false);
        c.is("one afloat", y.breaks(2), 0);
        c.refusesIndex("breaks(3)", () -> y.breaks(3));
        c.refusesIndex("breaks(-1)", () -> y.breaks(-1));
    }

    private static void telling() {
        OakYard y = new OakYard();
        y.ship(7, 11, true);
        y.gang(2);
        y.gang(2);
        y.works(1, 0);
        int[] due = {0, 11, 0, 0, -1, -1, 0, 0, 0, 7, 0, 1};
        for (int what = 0; what < due.length; what++) {
            c.is("led(0, " + what + ")", y.led(0, what), due[what]);
        }
        c.refuses("led(0, 12)", NoSuchElementException.class, () -> y.led(0, 12));
        c.refuses("led(0, -1)", NoSuchElementException.class, () -> y.led(0, -1));
        c.refusesIndex("led(1, 12)", () -> y.led(1, 12));
        c.refusesIndex("led(-1, 0)", () -> y.led(-1, 0));
        OakYard worst = new OakYard();
        worst.buy(0, 0, 10, 10, 0);
        worst.buy(0, 0, 10, 10, 0);
        worst.shed(0);
        worst.days(30);
        worst.shed(1);
        worst.ship(5, 0, false);
        worst.need(0, 0, 5, 5, 0);
        worst.need(0, 0, 5, 5, 0);
        worst.lay(0);
        worst.fit(0, 0, 0, true);
        worst.fit(0, 1, 1, true);
        c.is("the worst rot", worst.led(0, 10), 3);
        c.is("bad pieces", worst.led(0, 8), 2);
    }

    private static void lastTide() {
        OakYard y = afloat(12);
        y.dock(2);
        y.tide(4, 10);
        y.tide(5, 9);
        c.is("up to a day", y.lastTide(0, 0, 31), 4);
        c.is("up to the very day", y.lastTide(0, 0, 32), 32);
        c.is("up to day 3", y.lastTide(0, 0, 3), OakYard.NONE);
        c.is("up to a day below 0", y.lastTide(0, 0, Integer.MIN_VALUE), OakYard.NONE);
        c.is("beyond the last day", y.lastTide(0, 0, 5000), 4988);
        c.is("up to the last number", y.lastTide(0, 0, Integer.MAX_VALUE), Integer.MAX_VALUE / 28 * 28 + 4);
        y.days(5);
        c.is("not ahead of today", y.lastTide(0, 0, 31), OakYard.NONE);
        y.days(27);
        c.is("today", y.lastTide(0, 0, 32), 32);
        c.is("yesterday", y.lastTide(0, 0, 31), OakYard.NONE);
        y.ship(40, 0, false);
        c.is("one that never may", y.lastTide(1, 0, 3000), OakYard.NONE);
        c.refusesIndex("lastTide(2, 0)", () -> y.lastTide(2, 0, 1));
        c.refusesIndex("lastTide(0, 1)", () -> y.lastTide(0, 1, 1));
        c.refusesIndex("lastTide(0, -1)", () -> y.lastTide(0, -1, 1));
        c.refusesIndex("lastTide(-1, 0)", () -> y.lastTide(-1, 0, 1));
    }

    private static void dockPlan() {
        OakYard y = afloat(5, 8, 8, 5, 5);
        y.dock(5);
        c.is("one, the sill alone is enough", y.docks(0, 1, 3), 3);
        c.is("two such", y.docks(0, 9, 3), 6);
        y.tide(2, 3);
        y.tide(9, 3);
        c.is("one that must wait for the tide", y.docks(0, 2, 3), 9);
        c.is("one more between", y.docks(0, 3, 3), 12);
        c.is("without ships", y.docks(0, 0, 60), 0);
        c.is("four", y.docks(0, 15, 2), 32);
        y.days(2);
        c.is("counted from today", y.docks(0, 2, 3), 7);
        c.refusesNumber("five", () -> y.docks(0, 31, 3));
        c.refusesNumber("bits of no ship", () -> y.docks(0, 32, 3));
        c.refusesNumber("the highest bit", () -> y.docks(0, Integer.MIN_VALUE, 3));
        c.refusesNumber("0 days", () -> y.docks(0, 1, 0));
        c.refusesNumber("61 days", () -> y.docks(0, 0, 61));
        c.refusesIndex("docks(1, -1, 0)", () -> y.docks(1, -1, 0));
        c.refusesIndex("docks(-1, 0, 1)", () -> y.docks(-1, 0, 1));
        y.moor(0, 0, true);
        c.is("one in a dock is not afloat", y.docks(0, 1, 3), OakYard.NONE);
        c.is("whether it is free is not asked", y.docks(0, 8, 3), 3);
        y.sail(3, true);
        c.is("one at sea is not afloat", y.docks(0, 8, 3), OakYard.NONE);
    }

    private static void dockPlanEdges() {
        OakYard y = afloat(10, 10, 10, 10, 40);
        y.dock(0);
        c.is("one that never may", y.docks(0, 16, 3), OakYard.NONE);
        y.tide(0, 10);
        c.is("a tide in 28 days", y.docks(0, 1, 28), 28);
        c.is("a tide in 28 days, a day too late", y.docks(0, 1, 29), 56);
        c.is("three of 84 days", y.docks(0, 7, 57), 252);
        c.is("four of 84 days are not within 300", y.docks(0, 15, 57), OakYard.NONE);
        OakYard all = afloat(10, 10, 10, 10);
        all.dock(10);
        c.is("four of 60 days", all.docks(0, 15, 60), 240);
        for (int tide = 19; tide <= 21; tide++) {
            OakYard edge = afloat(20, 10, 20, 10);
            edge.dock(10);
            edge.tide(tide, 10);
            c.is("two at a tide, two at any", edge.docks(0, 15, 57), tide == 21 ? OakYard.NONE : 280 + tide);
        }
    }
}
