import java.util.NoSuchElementException;

/** Promises 1, 4 to 11: a new yard, roads, trees, what is felled and bought, sheds, and what a piece tells. */
final class TreesAndPiecesTest {
    private static final Check c = new Check();

    public static void main(String[] args) {
        newYard();
        roads();
        trees();
        felling();
        buying();
        sheds();
        tellings();
        looks();
        looksOfCutRot();
        c.end();
    }

    private static void newYard() {
        OakYard y = new OakYard();
        for (int what = 0; what <= 18; what++) {
            c.is("count(" + what + ") of a new yard", y.count(what), 0);
        }
        c.is("fault() of a new yard", y.fault(), OakYard.NONE);
        c.is("undo() of a new yard", y.undo(), false);
        c.is("back() of a new yard", y.back(), false);
        c.is("war() of a new yard", y.war(), 0);
        c.is("gangs() of a new yard", y.gangs(), 0);
        c.is("best(9) of a new yard", y.best(9), 0);
        c.refusesIndex("piece(0, 0) of a new yard", () -> y.piece(0, 0));
        c.refusesIndex("led(0, 0) of a new yard", () -> y.led(0, 0));
        c.refusesIndex("fell(0, 0) of a new yard", () -> y.fell(0, 0));
        c.refusesIndex("works(0, -1) of a new yard", () -> y.works(0, OakYard.NONE));
        c.refusesIndex("docks(0, 0, 1) of a new yard", () -> y.docks(0, 0, 1));
    }

    private static void roads() {
        OakYard y = new OakYard();
        c.refusesIndex("road(-1, 99)", () -> y.road(-1, 99));
        c.refusesIndex("road(6, 5)", () -> y.road(6, 5));
        c.refusesNumber("road(5, -1)", () -> y.road(5, -1));
        c.refusesNumber("road(0, 61)", () -> y.road(0, 61));
        y.tree(5, 0, 50, 20, 0, 0);
        y.tree(5, 0, 50, 20, 0, 0);
        y.tree(0, 0, 50, 20, 0, 0);
        y.fell(0, 0);
        y.road(5, 60);
        y.fell(1, 0);
        y.road(0, 0);
        y.fell(2, 0);
        c.is("no road: in the pond at once", y.piece(2, 1), 1);
        y.road(5, 1);
        y.days(9);
        c.is("a road of 10 days, after 9", y.piece(0, 1), 0);
        y.days(1);
        c.is("a road of 10 days, after 10", y.piece(0, 1), 1);
        y.days(49);
        c.is("a road of 60 days, after 59", y.piece(1, 1), 0);
        y.days(1);
        c.is("a road of 60 days, after 60", y.piece(1, 1), 1);
    }

    private static void trees() {
        OakYard y = new OakYard();
        c.refusesIndex("tree of wood 6", () -> y.tree(6, 9, 50, 20, 0, 0));
        c.refusesIndex("tree of wood -1", () -> y.tree(-1, 0, 50, 20, 0, 0));
        int[][] wrong = {{3, 50, 20, 0, 0}, {-1, 50, 20, 0, 0}, {0, 4, 20, 0, 0}, {0, 101, 20, 0, 0},
            {0, 50, 4, 0, 0}, {0, 50, 61, 0, 0}, {0, 50, 20, -10, 0}, {0, 50, 20, 10, 0}, {0, 50, 20, 0, -1},
            {0, 50, 20, 0, 10}};
        for (int[] w : wrong) {
            c.refusesNumber("a tree with a wrong number", () -> y.tree(0, w[0], w[1], w[2], w[3], w[4]));
        }
        c.is("no tree came", y.count(1), 0);
        c.is("the first tree", y.tree(0, 0, 5, 5, -9, 0), 0);
        c.is("the second tree", y.tree(5, 2, 100, 60, 9, 9), 1);
        for (int n = 2; n < 58; n++) {
            c.is("a further tree", y.tree(1, 1, 50, 20, 0, 0), n);
        }
        y.tree(1, 1, 50, 20, 0, 0);
        y.tree(1, 2, 77, 33, 0, 0);
        c.refusesMore("a 61st tree", () -> y.tree(0, 0, 50, 20, 0, 0));
        c.refusesNumber("a wrong 61st tree", () -> y.tree(0, 0, 50, 20, 0, 10));
        c.is("trees", y.count(1), 60);
        y.fell(7, 0);
        c.is("trees that stand", y.count(2), 59);
        c.is("as long as the 60th", y.piece(y.fell(59, 0), 2), 77);
        c.is("as long as the 59th", y.piece(y.fell(58, 0), 2), 50);
    }

    private static void felling() {
        OakYard y = new OakYard();
        y.tree(1, 2, 50, 20, -6, 0);
        y.tree(1, 1, 10, 30, 9, 0);
        y.tree(1, 0, 40, 15, 5, 0);
        c.refusesIndex("fell(3, 0)", () -> y.fell(3, 0));
        c.refusesIndex("fell(-1, 9)", () -> y.fell(-1, 9));
        c.refusesNumber("fell(0, 3)", () -> y.fell(0, 3));
        c.refusesNumber("fell(0, -1)", () -> y.fell(0, -1));
        y.days(3);
        c.is("fell(1, 2)", y.fell(1, 2), 0);
        c.is("fell(1, 0) again", y.fell(1, 0), OakYard.NONE);
        c.refusesNumber("fell(1, 3) of a felled one", () -> y.fell(1, 3));
        c.is("fell(0, 0)", y.fell(0, 0), 1);
        c.is("fell(2, 1)", y.fell(2, 1), 2);
        tells(y, 0, 2, 0, 5, 30, 0, 1, 0, 0, 0, 1, 3);
        tells(y, 1, 0, 0, 44, 20, 0, 2, 0, 0, 0, 0, 3);
        tells(y, 2, 1, 0, 40, 15, 5, 0, 0, 0, 0, 2, 3);
        OakYard full = new OakYard();
        full.tree(0, 0, 50, 20, 0, 0);
        for (int n = 0; n < 120; n++) {
            full.buy(0, 0, n < 119 ? 10 : 12, 10, 0);
        }
        c.is("the 119th piece", full.piece(118, 2), 10);
        c.is("the 120th piece", full.piece(119, 2), 12);
        c.is("fell with 120 pieces", full.fell(0, 0), OakYard.NONE);
        c.is("it stands", full.count(2), 1);
        c.refusesMore("a 121st piece bought", () -> full.buy(0, 0, 10, 10, 0));
        c.refusesNumber("a wrong 121st piece bought", () -> full.buy(4, 0, 10, 10, 0));
    }

    private static void tells(OakYard y, int piece, int... due) {
        for (int what = 0; what < due.length; what++) {
            c.is("piece(" + piece + ", " + what + ")", y.piece(piece, what), due[what]);
        }
    }

    private static void buying() {
        OakYard y = new OakYard();
        int[][] wrong = {{-1, 0, 10, 10, 0}, {4, 0, 10, 10, 0}, {0, -1, 10, 10, 0}, {0, 3, 10, 10, 0},
            {3, 1, 10, 10, 0}, {0, 0, 4, 10, 0}, {0, 0, 101, 10, 0}, {0, 0, 10, 0, 0}, {0, 0, 10, 61, 0},
            {0, 0, 10, 10, 1}, {2, 0, 10, 10, -1}, {3, 0, 10, 10, 2}, {1, 0, 10, 10, 10}, {1, 0, 10, 10, -10}};
        for (int[] w : wrong) {
            c.refusesNumber("a wrong piece bought", () -> y.buy(w[0], w[1], w[2], w[3], w[4]));
        }
        y.days(2);
        c.is("a plank bought", y.buy(0, 2, 5, 1, 0), 0);
        c.is("a knee bought", y.buy(1, 1, 100, 60, -9), 1);
        c.is("a rope bought", y.buy(3, 0, 50, 3, 0), 2);
        c.is("a knee of the greatest bend", y.buy(1, 1, 100, 60, 9), 3);
        c.is("its bend", y.piece(3, 4), 9);
        tells(y, 0, 0, 1, 5, 1, 0, 2, 0, 0, 0, -1, 2, -1, -1, 0, -1);
        tells(y, 1, 1, 1, 100, 60, -9, 1, 0, 0, 0, -1, 2, -1, -1, 0, -1);
        tells(y, 2, 3, 1, 50, 3, 0, 0, 0, 0, 0, -1, 2, -1, -1, 0, -1);
    }

    private static void sheds() {
        OakYard y = new OakYard();
        c.refusesNumber("sheds(0)", () -> y.sheds(0));
        c.refusesNumber("sheds(121)", () -> y.sheds(121));
        c.refusesIndex("shed(0) without pieces", () -> y.shed(0));
        for (int n = 0; n < 25; n++) {
            y.buy(0, 0, 10, 10, 0);
        }
        for (int n = 0; n < 20; n++) {
            c.is("shed(" + n + ")", y.shed(n), true);
        }
        c.is("a 21st in a shed of 20", y.shed(20), false);
        y.sheds(120);
        c.is("a 21st in a shed of 120", y.shed(20), true);
        c.is("one that is in the shed", y.shed(20), false);
        y.sheds(1);
        c.is("what is in it stays", y.count(6), 21);
        c.is("no room in a shed of 1", y.shed(21), false);
        y.tree(0, 0, 50, 20, 0, 0);
        int onRoad = y.fell(0, 0);
        y.sheds(120);
        c.is("one on the road", y.shed(onRoad), false);
        c.refusesIndex("shed(-1)", () -> y.shed(-1));
        c.refusesIndex("shed(26)", () -> y.shed(26));
    }

    private static void tellings() {
        OakYard y = new OakYard();
        y.buy(0, 0, 10, 10, 0);
        y.days(4);
        y.shed(0);
        c.is("the day it went into the shed", y.piece(0, 14), 4);
        y.days(3);
        c.is("its dryness", y.piece(0, 6), 3);
        c.refuses("piece(0, 15)", NoSuchElementException.class, () -> y.piece(0, 15));
        c.refuses("piece(0, -1)", NoSuchElementException.class, () -> y.piece(0, -1));
        c.refusesIndex("piece(1, 15)", () -> y.piece(1, 15));
        c.refusesIndex("piece(-1, 0)", () -> y.piece(-1, 0));
        y.ship(5, 0, false);
        y.need(0, 0, 5, 5, 0);
        y.need(0, 0, 6, 6, 0);
        y.lay(0);
        y.fit(0, 1, 0, true);
        tells(y, 0, 0, 3, 10, 10, 0, 0, 3, 0, 0, -1, 0, 0, 1, 1, 4);
        y.out(0, 1);
        tells(y, 0, 0, 1, 10, 10, 0, 0, 3, 0, 0, -1, 0, -1, -1, 0, 4);
        y.days(1);
        y.shed(0);
        c.is("the day it went in last", y.piece(0, 14), 8);
        y.days(2);
        c.is("its dryness goes on", y.piece(0, 6), 5);
    }

    private static void looks() {
        OakYard y = new OakYard();
        y.road(0, 0);
        y.tree(0, 2, 50, 20, 0, 9);
        y.tree(1, 2, 50, 20, 0, 9);
        y.fell(0, 0);
        y.fell(1, 0);
        c.refusesIndex("look(2)", () -> y.look(2));
        c.refusesIndex("look(-1)", () -> y.look(-1));
        c.is("look at one on the road", y.look(1), OakYard.NONE);
        c.is("look at one in the pond", y.look(0), 0);
        y.days(80);
        c.is("rot in truth", y.piece(0, 7), 16 + 8);
        c.is("it shows what the last look told", y.piece(0, 8), 0);
        c.is("a look tells nothing of the heart", y.look(0), 16);
        c.is("it shows that", y.piece(0, 8), 16);
        Check.warrant(y, "look 9; fit plank; look 7", 80);
        c.is("the last look line bounds it", y.look(0), 7);
        Check.warrant(y, "look 0", 81);
        c.is("that of a later day does not", y.look(0), 7);
        y.days(1);
        c.is("it does then", y.look(0), 0);
        Check.warrant(y, "fit plank", 81);
        c.is("100 without such a line", y.look(0), 16);
        y.days(200);
        y.days(200);
        c.is("it is rotted", y.piece(0, 1), 6);
        c.is("look at a rotted one", y.look(0), OakYard.NONE);
    }

    /** On day 160 the heart of 8 would make 4 more, but what is cut at 100 it has not made. */
    private static void looksOfCutRot() {
        int[] dueOf94On = {83, 84, 84, 85, 86, 87, 88};
        for (int n = 0; n < dueOf94On.length; n++) {
            int ahead = 94 + n;
            OakYard y = inShipWithRot(ahead);
            c.is("rot ahead of day 160", y.piece(0, 7), ahead);
            c.is("a look then", y.look(0), ahead - 12);
            y.days(1);
            c.is("rot on day 160 of " + ahead, y.piece(0, 7), Math.min(100, ahead + 5));
            c.is("a look at " + ahead + " and the heart's part of 4", y.look(0), dueOf94On[n]);
            y.days(40);
            c.is("a look at 100 and nothing more of the heart", y.look(0), Math.min(88, 84 + Math.max(0, ahead - 96)));
            y.out(0, 0);
            c.is("the same out of the ship", y.look(0), Math.min(88, 84 + Math.max(0, ahead - 96)));
        }
    }

    /** Day 159: an oak that has 12 of the heart of 8, and one more of each day in a ship. */
    private static OakYard inShipWithRot(int rot) {
        OakYard y = new OakYard();
        y.road(0, 0);
        y.tree(0, 0, 50, 20, 0, 8);
        y.fell(0, 0);
        y.ship(5, 0, false);
        y.need(0, 0, 5, 5, 0);
        y.lay(0);
        y.days(159 - (rot - 12));
        y.shed(0);
        y.fit(0, 0, 0, true);
        y.days(rot - 12);
        return y;
    }
}
