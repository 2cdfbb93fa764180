/** Promises 16 to 26: ships, needs, slips, fitting, the least waste, masts and launching. */
final class ShipsTest {
    private static final Check c = new Check();

    public static void main(String[] args) {
        ships();
        needs();
        slips();
        fitting();
        enough();
        taking();
        leastWaste();
        leastWasteOfTrees();
        firstOfSeveral();
        masts();
        making();
        launching();
        c.end();
    }

    private static void ships() {
        OakYard y = new OakYard();
        c.refusesNumber("ship(0, 0)", () -> y.ship(0, 0, false));
        c.refusesNumber("ship(41, 0)", () -> y.ship(41, 0, false));
        c.refusesNumber("ship(1, -1)", () -> y.ship(1, -1, false));
        c.refusesNumber("ship(1, 5001)", () -> y.ship(1, 5001, false));
        c.is("the first ship", y.ship(1, 0, false), 0);
        c.is("the second ship", y.ship(40, 5000, true), 1);
        for (int n = 2; n < 8; n++) {
            c.is("a further ship", y.ship(5, 5, true), n);
        }
        c.refusesMore("a 9th ship", () -> y.ship(5, 5, true));
        c.refusesNumber("a wrong 9th ship", () -> y.ship(0, 5, true));
        c.is("ships", y.count(11), 8);
    }

    private static void needs() {
        OakYard y = new OakYard();
        y.ship(5, 0, false);
        int[][] wrong = {{-1, 5, 5, 0}, {4, 5, 5, 0}, {0, 0, 5, 0}, {0, 301, 5, 0}, {0, 5, 0, 0}, {0, 5, 61, 0},
            {0, 5, 5, 1}, {2, 5, 5, -1}, {3, 5, 5, 1}, {1, 5, 5, 10}, {1, 5, 5, -10}};
        for (int[] w : wrong) {
            c.refusesNumber("a wrong need", () -> y.need(0, w[0], w[1], w[2], w[3]));
        }
        c.refusesIndex("a wrong need of no ship", () -> y.need(1, 9, 5, 5, 0));
        c.refusesIndex("need of ship -1", () -> y.need(-1, 0, 5, 5, 0));
        c.is("the first need", y.need(0, 1, 300, 60, -9), 0);
        c.is("the second need", y.need(0, 1, 1, 1, 9), 1);
        for (int n = 2; n < 8; n++) {
            c.is("a further need", y.need(0, 3, 1, 1, 0), n);
        }
        c.is("a 9th need", y.need(0, 0, 5, 5, 0), OakYard.NONE);
        c.refusesNumber("a wrong 9th need", () -> y.need(0, 0, 0, 5, 0));
        c.is("needs", y.led(0, 2), 8);
        y.lay(0);
        c.refuses("a need on the slip", IllegalStateException.class, () -> y.need(0, 0, 5, 5, 0));
        c.refusesNumber("a wrong need on the slip", () -> y.need(0, 0, 5, 5, 1));
    }

    private static void slips() {
        OakYard y = new OakYard();
        c.refusesNumber("slips(0)", () -> y.slips(0));
        c.refusesNumber("slips(9)", () -> y.slips(9));
        c.refusesIndex("lay(0) without ships", () -> y.lay(0));
        for (int n = 0; n < 5; n++) {
            y.ship(5, 0, false);
        }
        c.is("lay(0)", y.lay(0), true);
        c.is("lay(0) again", y.lay(0), false);
        c.is("lay(1)", y.lay(1), true);
        c.is("lay(2) on 2 slips", y.lay(2), false);
        c.is("it is on paper", y.led(2, 0), 0);
        y.slips(3);
        c.is("lay(2) on 3 slips", y.lay(2), true);
        y.slips(1);
        c.is("ships on slips stay", y.count(12), 3);
        c.is("lay(3) on 1 slip", y.lay(3), false);
        y.launch(0);
        y.launch(1);
        y.launch(2);
        c.is("lay(3) on a free slip", y.lay(3), true);
        c.is("lay of a ship afloat", y.lay(0), false);
        c.refusesIndex("lay(5)", () -> y.lay(5));
        c.refusesIndex("lay(-1)", () -> y.lay(-1));
    }

    private static void fitting() {
        OakYard y = new OakYard();
        Check.warrant(y, "fit plank if oak", 0);
        y.buy(0, 0, 10, 10, 0);
        y.buy(0, 1, 10, 10, 0);
        y.buy(0, 0, 10, 10, 0);
        y.ship(5, 0, false);
        y.need(0, 0, 10, 10, 0);
        y.need(0, 0, 5, 5, 0);
        y.need(0, 0, 5, 5, 0);
        y.shed(0);
        y.shed(1);
        c.is("a ship on paper", y.fit(0, 0, 0, true), false);
        y.lay(0);
        c.is("a piece in the pond", y.fit(0, 0, 2, true), false);
        c.is("one that may not", y.fit(0, 0, 1, false), false);
        c.is("by force", y.fit(0, 0, 1, true), true);
        c.is("it is bad", y.piece(1, 13), 1);
        c.is("bad pieces", y.led(0, 8), 1);
        c.is("a need that is fit", y.fit(0, 0, 0, true), false);
        c.is("a piece that is in a ship", y.fit(0, 1, 1, true), false);
        c.is("one that may, by force", y.fit(0, 1, 0, true), true);
        c.is("it is not bad", y.piece(0, 13), 0);
        c.is("needs that are fit", y.led(0, 3), 2);
        c.refusesIndex("fit(1, 0, 0)", () -> y.fit(1, 0, 0, true));
        c.refusesIndex("fit(0, 3, 0)", () -> y.fit(0, 3, 0, true));
        c.refusesIndex("fit(0, -1, 0)", () -> y.fit(0, -1, 0, true));
        c.refusesIndex("fit(0, 2, 3)", () -> y.fit(0, 2, 3, true));
        c.refusesIndex("fit(0, 2, -1)", () -> y.fit(0, 2, -1, true));
        Check.warrant(y, "fit plank if elm", 0);
        y.shed(2);
        c.is("by the later warrant it may not", y.fit(0, 2, 2, false), false);
        c.is("bad as it went in", y.piece(1, 13), 1);
    }

    private static void enough() {
        OakYard y = new OakYard();
        Check.warrant(y, "fit plank; fit knee; fit rope", 0);
        y.buy(0, 0, 9, 10, 0);
        y.buy(0, 0, 10, 9, 0);
        y.buy(1, 0, 10, 10, 2);
        y.buy(1, 0, 10, 10, 6);
        y.buy(1, 0, 10, 10, 3);
        y.buy(3, 0, 10, 10, 0);
        for (int p = 0; p < 6; p++) {
            y.shed(p);
        }
        y.ship(5, 0, false);
        y.need(0, 0, 10, 10, 0);
        y.need(0, 1, 10, 10, 4);
        y.need(0, 3, 10, 10, 0);
        y.lay(0);
        c.is("too short", y.fit(0, 0, 0, true), false);
        c.is("too thin", y.fit(0, 0, 1, true), false);
        c.is("a bend 2 less", y.fit(0, 1, 2, true), false);
        c.is("a bend 2 more", y.fit(0, 1, 3, true), false);
        c.is("another kind", y.fit(0, 0, 4, true), false);
        c.is("a bend 1 less", y.fit(0, 1, 4, false), true);
        c.is("a rope", y.fit(0, 2, 5, false), true);
    }

    private static void taking() {
        OakYard y = new OakYard();
        y.buy(0, 0, 10, 10, 0);
        y.shed(0);
        y.ship(5, 0, false);
        y.need(0, 0, 10, 10, 0);
        c.is("out of a ship on paper", y.out(0, 0), OakYard.NONE);
        y.lay(0);
        c.is("out of a need that is not fit", y.out(0, 0), OakYard.NONE);
        y.fit(0, 0, 0, true);
        c.is("out", y.out(0, 0), 0);
        c.is("it is in the pond", y.piece(0, 1), 1);
        c.is("it is bad no more", y.piece(0, 13), 0);
        c.is("out again", y.out(0, 0), OakYard.NONE);
        y.shed(0);
        y.fit(0, 0, 0, true);
        y.launch(0);
        c.is("out of a ship afloat", y.out(0, 0), OakYard.NONE);
        y.dock(5);
        y.moor(0, 0, true);
        c.is("out in a dock", y.out(0, 0), 0);
        y.shed(0);
        c.is("fit in a dock", y.fit(0, 0, 0, true), true);
        c.refusesIndex("out(1, 0)", () -> y.out(1, 0));
        c.refusesIndex("out(0, 1)", () -> y.out(0, 1));
        c.refusesIndex("out(0, -1)", () -> y.out(0, -1));
    }

    private static void leastWaste() {
        OakYard y = new OakYard();
        y.ship(5, 0, false);
        c.is("waste without needs", y.waste(0, false), 0);
        y.need(0, 0, 10, 10, 0);
        y.need(0, 0, 20, 10, 0);
        y.need(0, 1, 10, 10, 5);
        y.buy(0, 0, 12, 10, 0);
        y.buy(0, 0, 25, 11, 0);
        y.buy(0, 0, 22, 10, 0);
        y.buy(1, 0, 15, 10, 4);
        y.buy(1, 0, 11, 10, 3);
        for (int p = 0; p < 5; p++) {
            y.shed(p);
        }
        c.is("waste without a warrant", y.waste(0, false), OakYard.NONE);
        c.is("which without a way", y.which(0, 0, false), OakYard.NONE);
        Check.warrant(y, "fit plank; fit knee", 0);
        c.is("waste", y.waste(0, false), 2 + 2 + 5);
        c.is("which(0)", y.which(0, 0, false), 0);
        c.is("which(1)", y.which(0, 1, false), 2);
        c.is("which(2)", y.which(0, 2, false), 3);
        y.lay(0);
        y.fit(0, 1, 1, false);
        c.is("of a need that is fit nothing", y.waste(0, false), 2 + 5);
        c.is("which of a need that is fit", y.which(0, 1, false), OakYard.NONE);
        c.is("which of another", y.which(0, 2, false), 3);
        y.fit(0, 0, 0, false);
        y.fit(0, 2, 3, false);
        c.is("waste of a ship all fit", y.waste(0, false), 0);
        c.refusesIndex("waste(1)", () -> y.waste(1, false));
        c.refusesIndex("waste(-1)", () -> y.waste(-1, true));
        c.refusesIndex("which(0, 3)", () -> y.which(0, 3, false));
        c.refusesIndex("which(0, -1)", () -> y.which(0, -1, true));
        c.refusesIndex("which(1, 0)", () -> y.which(1, 0, false));
        y.ship(5, 0, false);
        y.need(1, 3, 10, 1, 0);
        y.buy(3, 0, 30, 3, 0);
        c.is("a rope in the pond is none", y.waste(1, false), OakYard.NONE);
        y.shed(5);
        c.is("a rope that may not is none", y.waste(1, false), OakYard.NONE);
        Check.warrant(y, "fit rope if not hired", 0);
        c.is("waste of a rope", y.waste(1, false), 22);
    }

    private static void leastWasteOfTrees() {
        OakYard y = new OakYard();
        y.tree(0, 0, 30, 20, -7, 0);
        y.tree(0, 0, 24, 20, 0, 0);
        y.tree(0, 0, 40, 20, 2, 0);
        y.ship(5, 0, false);
        y.need(0, 0, 20, 20, 0);
        y.need(0, 1, 20, 20, -6);
        c.is("a tree as a plank and one as a knee", y.waste(0, true), 4 + 10);
        c.is("which tree as a plank", y.which(0, 0, true), 1);
        c.is("which tree as a knee", y.which(0, 1, true), 0);
        y.fell(1, 0);
        c.is("of trees that stand", y.waste(0, true), 18 + 10);
        y.fell(0, 0);
        c.is("none when not all can be", y.waste(0, true), OakYard.NONE);
        c.is("which then", y.which(0, 0, true), OakYard.NONE);
        y.ship(5, 0, false);
        y.need(1, 3, 5, 5, 0);
        c.is("no rope of a tree", y.waste(1, true), OakYard.NONE);
        y.ship(5, 0, false);
        y.need(2, 2, 5, 5, 0);
        y.tree(0, 0, 10, 5, 9, 0);
        c.is("5 long at least", y.waste(2, true), 0);
        c.is("which as a mast", y.which(2, 0, true), 3);
    }

    private static void firstOfSeveral() {
        OakYard y = new OakYard();
        Check.warrant(y, "fit plank", 0);
        y.ship(5, 0, false);
        for (int n = 0; n < 8; n++) {
            y.need(0, 0, 10 + n % 2, 10, 0);
        }
        for (int n = 0; n < 20; n++) {
            y.buy(0, 0, 10 + (n + 1) % 2, 10, 0);
            y.shed(n);
        }
        c.is("no waste at all", y.waste(0, false), 0);
        for (int n = 0; n < 8; n++) {
            c.is("the least numbers that fit without waste", y.which(0, n, false), n + 1 - n % 2 * 2);
        }
        OakYard few = new OakYard();
        Check.warrant(few, "fit plank", 0);
        few.ship(5, 0, false);
        few.need(0, 0, 10, 10, 0);
        few.need(0, 0, 5, 5, 0);
        few.buy(0, 0, 30, 10, 0);
        few.buy(0, 0, 20, 20, 0);
        few.shed(1);
        few.shed(0);
        c.is("the sum is the same both ways", few.waste(0, false), 20 + 30);
        c.is("the first need has the least number", few.which(0, 0, false), 0);
        c.is("the next one the other", few.which(0, 1, false), 1);
    }

    private static void masts() {
        OakYard y = new OakYard();
        y.ship(5, 0, false);
        y.need(0, 2, 40, 10, 0);
        y.need(0, 0, 10, 10, 0);
        c.is("no masts", y.masts(0, 0), OakYard.NONE);
        y.buy(2, 0, 44, 10, 0);
        c.is("one mast is not made of some", y.masts(0, 0), OakYard.NONE);
        y.buy(2, 0, 20, 10, 0);
        c.is("two masts", y.masts(0, 0), 3);
        y.buy(2, 0, 20, 9, 0);
        y.buy(2, 0, 24, 10, 0);
        c.is("the least waste", y.masts(0, 0), 10);
        y.buy(2, 0, 12, 10, 0);
        y.buy(2, 0, 16, 10, 0);
        c.is("of several the fewest", y.masts(0, 0), 10);
        y.buy(2, 0, 24, 10, 0);
        c.is("then the least bits", y.masts(0, 0), 10);
        y.shed(1);
        c.is("pond or shed", y.masts(0, 0), 10);
        c.is("no need of a mast", y.masts(0, 1), OakYard.NONE);
        c.refusesIndex("masts(0, 2)", () -> y.masts(0, 2));
        c.refusesIndex("masts(0, -1)", () -> y.masts(0, -1));
        c.refusesIndex("masts(1, 0)", () -> y.masts(1, 0));
        OakYard many = new OakYard();
        many.ship(5, 0, false);
        many.need(0, 2, 136, 5, 0);
        for (int n = 0; n < 9; n++) {
            many.buy(0, 0, 50, 5, 0);
            many.buy(2, 0, n < 8 ? 20 : 100, 5, 0);
        }
        c.is("8 masts less 4 for each of 7 joints are too short", many.masts(0, 0), OakYard.NONE);
        many.ship(5, 0, false);
        many.need(1, 2, 132, 5, 0);
        c.is("they are enough for 132", many.masts(1, 0), 255);
    }

    private static void making() {
        OakYard y = new OakYard();
        y.road(0, 0);
        y.tree(0, 2, 30, 12, 0, 9);
        y.days(2);
        y.fell(0, 2);
        y.shed(0);
        y.days(38);
        y.look(0);
        y.buy(2, 0, 40, 20, 0);
        y.ship(5, 0, false);
        y.need(0, 2, 60, 5, 0);
        y.need(0, 2, 100, 5, 0);
        y.sheds(1);
        int rot = y.piece(0, 7);
        c.is("make without a set", y.make(0, 1), OakYard.NONE);
        c.is("make", y.make(0, 0), 2);
        int[] due = {2, 2, 66, 12, 0, 2, 0, rot, 0, 0, 2, -1, -1, 0, 40};
        for (int what = 0; what < due.length; what++) {
            c.is("of the made mast " + what, y.piece(2, what), due[what]);
        }
        c.is("used up", y.count(9), 2);
        c.is("no room is asked", y.count(6), 1);
        c.is("nothing of it by heart so far", y.look(2), rot);
        y.days(40);
        c.is("the heart of the first one's tree", y.piece(2, 7), rot + 4 + 4);
        c.is("what a look tells", y.look(2), rot + 4);
        c.is("of the tree", y.ofTree(2, false), 2);
        c.refusesIndex("make(0, 2)", () -> y.make(0, 2));
        c.refusesIndex("make(0, -1)", () -> y.make(0, -1));
        c.refusesIndex("make(1, 0)", () -> y.make(1, 0));
        OakYard full = new OakYard();
        full.ship(5, 0, false);
        full.need(0, 2, 10, 5, 0);
        for (int n = 0; n < 119; n++) {
            full.buy(2, 0, 10, 10, 0);
        }
        c.is("make a 120th", full.make(0, 0), 119);
        c.is("make a 121st", full.make(0, 0), OakYard.NONE);
        c.is("they are not used up", full.count(9), 2);
    }

    private static void launching() {
        OakYard y = new OakYard();
        y.buy(0, 0, 10, 10, 0);
        y.shed(0);
        y.ship(5, 3, false);
        y.need(0, 0, 5, 5, 0);
        y.gang(3);
        y.works(0, 0);
        c.is("launch on paper", y.launch(0), false);
        y.lay(0);
        y.days(1);
        c.is("no work is done while needs are not fit", y.led(0, 1), 3);
        y.fit(0, 0, 0, true);
        c.is("launch with work left", y.launch(0), false);
        y.days(1);
        y.out(0, 0);
        c.is("launch with a need that is not fit", y.launch(0), false);
        y.shed(0);
        y.fit(0, 0, 0, true);
        c.is("the day it was launched", y.led(0, 5), OakYard.NONE);
        c.is("launch", y.launch(0), true);
        c.is("the day it was launched", y.led(0, 5), 2);
        c.is("afloat", y.led(0, 0), 2);
        c.is("launch again", y.launch(0), false);
        y.ship(5, 0, true);
        y.lay(1);
        c.is("launch without needs", y.launch(1), true);
        c.refusesIndex("launch(2)", () -> y.launch(2));
        c.refusesIndex("launch(-1)", () -> y.launch(-1));
    }
}
