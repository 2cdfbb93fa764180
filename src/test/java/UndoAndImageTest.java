/** Promises 52 to 55: one call undone, the image, and counts. */
final class UndoAndImageTest {
    private static final Check c = new Check();

    public static void main(String[] args) {
        undoOfEach();
        undoOnlyOfThese();
        undoOfMore();
        undoAndTape();
        image();
        imageOfAll();
        imageOverOthers();
        nothingIsLeft();
        warrantsBack();
        counts();
        c.end();
    }

    private static OakYard yard() {
        OakYard y = new OakYard();
        y.road(0, 0);
        y.tree(0, 0, 30, 10, 0, 9);
        y.buy(0, 0, 10, 10, 0);
        y.buy(2, 0, 20, 10, 0);
        y.buy(2, 0, 20, 10, 0);
        y.shed(0);
        y.ship(5, 0, false);
        y.need(0, 0, 5, 5, 0);
        y.need(0, 2, 25, 5, 0);
        y.lay(0);
        y.ship(5, 0, false);
        y.lay(1);
        y.dock(10);
        y.keep();
        y.back();
        return y;
    }

    private static void undoOfEach() {
        OakYard y = yard();
        c.is("nothing to be undone behind the image", y.undo(), false);
        y.fell(0, 0);
        taken(y, "fell", 3, 2, 3, 1);
        y.buy(0, 0, 10, 10, 0);
        taken(y, "buy", 3, 2, 3, 1);
        y.shed(1);
        taken(y, "shed", 3, 2, 3, 1);
        c.is("the day it went in", y.piece(1, 14), OakYard.NONE);
        y.fit(0, 0, 0, true);
        taken(y, "fit", 3, 2, 3, 1);
        c.is("fit no more", y.led(0, 3), 0);
        y.make(0, 1);
        taken(y, "make", 3, 2, 3, 1);
        c.is("used up no more", y.count(9), 0);
        y.fit(0, 0, 0, true);
        y.out(0, 0);
        c.is("undo of out", y.undo(), true);
        c.is("it is in the ship", y.piece(0, 1), 3);
        c.is("bad as it was", y.piece(0, 13), 1);
        y.launch(1);
        c.is("undo of launch", y.undo(), true);
        c.is("on the slip", y.led(1, 0), 1);
        c.is("not launched", y.led(1, 5), OakYard.NONE);
        y.launch(1);
        y.moor(1, 0, true);
        c.is("undo of moor", y.undo(), true);
        c.is("afloat", y.led(1, 0), 2);
        c.is("in no dock", y.led(1, 4), OakYard.NONE);
        y.sail(1, true);
        c.is("undo of sail", y.undo(), true);
        c.is("afloat", y.led(1, 0), 2);
        y.days(50);
        c.is("undo of days", y.undo(), true);
        c.is("day", y.count(0), 0);
        c.is("rot", y.piece(0, 7), 0);
        c.is("once", y.undo(), false);
    }

    /** Takes a call back, and asks for pieces, those in pond and shed, and standing trees. */
    private static void taken(OakYard y, String call, int pieces, int pond, int three, int stand) {
        c.is("undo of " + call, y.undo(), true);
        c.is("undo again", y.undo(), false);
        c.is("pieces ahead of " + call, y.count(3), pieces);
        c.is("in the pond ahead of " + call, y.count(5), pond);
        c.is("in pond and shed ahead of " + call, y.count(5) + y.count(6), three);
        c.is("standing ahead of " + call, y.count(2), stand);
    }

    private static void undoOnlyOfThese() {
        OakYard y = yard();
        y.buy(0, 0, 10, 10, 0);
        y.undo();
        y.road(1, 1);
        y.tree(1, 0, 30, 10, 0, 0);
        y.sheds(5);
        y.look(0);
        Check.warrant(y, "fit plank", 0);
        y.ship(5, 5, true);
        y.need(2, 0, 5, 5, 0);
        y.slips(3);
        y.lay(2);
        y.dock(1);
        y.tide(1, 1);
        y.gang(1);
        y.works(0, 0);
        y.enter(0, 0, 1, 1);
        y.muster(0, 1);
        y.choice(1, 1, 1, 1);
        y.coin(0, 0, 1);
        y.breaks(2);
        y.days(0);
        y.shed(0);
        y.out(0, 0);
        y.fell(0, 1);
        y.undo();
        c.refusesNumber("a wrong call", () -> y.days(-1));
        c.is("none of these is undone", y.undo(), false);
        c.is("they stand", y.count(13), 2);
        c.is("fell once more", y.fell(0, 1), 3);
        c.is("fell again answers none", y.fell(0, 1), OakYard.NONE);
        c.is("the one that did something is undone", y.undo(), true);
        c.is("it stands", y.count(2), 2);
    }

    private static void undoOfMore() {
        OakYard y = yard();
        y.buy(0, 0, 10, 10, 0);
        y.road(1, 0);
        y.tree(1, 0, 30, 10, 0, 0);
        y.look(0);
        y.sheds(1);
        y.slips(1);
        y.ship(5, 5, true);
        y.tide(0, 7);
        y.gang(1);
        y.works(0, 0);
        y.enter(0, 0, 1, 1);
        y.muster(0, 2);
        y.choice(0, 0, 1, 0);
        y.coin(0, 0, 9);
        Check.warrant(y, "chip 9", 0);
        y.breaks(0);
        c.is("undo", y.undo(), true);
        c.is("trees told since", y.count(1), 1);
        c.is("pieces", y.count(3), 3);
        c.is("ships told since", y.count(11), 2);
        c.is("gangs told since", y.count(14), 0);
        c.is("warrants told since", y.count(16), 0);
        c.is("the ship is not broken up", y.led(0, 0), 1);
        c.is("entries told since", y.enter(0, 0, 1, 1), 1);
        c.is("musters told since", y.muster(0, 1), 1);
        c.is("choices told since", y.choice(1, 0, 1, 0), 1);
        c.is("coin told since", y.paid(1), false);
        c.is("room of the shed", y.shed(1), true);
        y.tree(1, 0, 30, 10, 0, 0);
        y.fell(1, 0);
        c.is("the road told since", y.piece(3, 1), 0);
        y.ship(20, 0, false);
        c.is("the tide told since", y.lastTide(0, 0, 0), 0);
    }

    private static void undoAndTape() {
        OakYard y = yard();
        Check.type(y, "fit");
        c.refusesNumber("a wrong text", () -> y.warrant(0));
        y.buy(0, 0, 10, 10, 0);
        Check.type(y, "chip 5 5");
        c.refusesNumber("a wrong text", () -> y.warrant(0));
        Check.type(y, "look 1");
        y.undo();
        c.is("undo leaves fault() as it is", y.fault(), 7);
        c.is("and the tape", y.warrant(0), 1);
        y.buy(0, 0, 10, 10, 0);
        y.keep();
        c.is("keeping leaves what may be undone", y.undo(), true);
        c.is("the image stays", y.back(), true);
        c.is("with that piece", y.count(3), 4);
    }

    private static void image() {
        OakYard y = yard();
        y.days(5);
        y.keep();
        y.days(10);
        y.buy(0, 0, 10, 10, 0);
        c.is("back", y.back(), true);
        c.is("day", y.count(0), 5);
        c.is("pieces", y.count(3), 3);
        c.is("nothing to be undone", y.undo(), false);
        y.days(3);
        c.is("back again", y.back(), true);
        c.is("day", y.count(0), 5);
        y.days(3);
        y.keep();
        y.days(3);
        y.back();
        c.is("the image is one", y.count(0), 8);
        Check.type(y, "look 1");
        y.keep();
        Check.type(y, "; look 2");
        y.back();
        c.is("the image leaves the tape", y.warrant(8), 2);
    }

    private static void imageOfAll() {
        OakYard y = new OakYard();
        y.keep();
        y.road(0, 0);
        y.sheds(1);
        y.slips(1);
        y.tide(0, 9);
        y.tree(0, 0, 30, 10, 0, 0);
        y.buy(0, 0, 10, 10, 0);
        y.ship(5, 5, true);
        y.dock(0);
        y.gang(1);
        y.enter(0, 0, 1, 1);
        y.muster(0, 2);
        y.choice(0, 0, 1, 0);
        y.coin(0, 0, 9);
        Check.warrant(y, "fit plank; chip 50; look 3", 0);
        y.works(0, 0);
        y.lay(0);
        y.days(4);
        y.back();
        for (int what = 0; what <= 18; what++) {
            c.is("count(" + what + ") of the first image", y.count(what), 0);
        }
        c.is("musters", y.wrong(0), OakYard.NONE);
        c.is("choices", y.best(9), 0);
        y.tree(0, 0, 30, 10, 0, 0);
        y.fell(0, 0);
        c.is("the road", y.piece(0, 1), 0);
        y.dock(0);
        y.ship(9, 0, false);
        c.is("the tide", y.lastTide(0, 0, 100), OakYard.NONE);
        for (int n = 0; n < 3; n++) {
            y.ship(1, 0, false);
        }
        c.is("slips", y.lay(1) && y.lay(2), true);
        c.is("2 slips", y.lay(3), false);
    }

    /** What the image has is there again, also where other things came in its stead. */
    private static void imageOverOthers() {
        OakYard y = new OakYard();
        y.buy(0, 0, 10, 10, 0);
        tellAll(y, 0);
        y.keep();
        c.is("undo of what was ahead of all", y.undo(), true);
        c.is("nothing is there", y.count(11) + y.count(13) + y.count(14) + y.count(16) + y.count(3), 0);
        y.buy(0, 0, 10, 10, 0);
        tellAll(y, 1);
        asked(y, 1);
        y.back();
        asked(y, 0);
    }

    private static void tellAll(OakYard y, int by) {
        Check.warrant(y, by == 0 ? "fit plank; look 1; look 2" : "look 3", 0);
        y.tree(0, by, 20 + by, 10 + by, 0, 0);
        y.ship(9, 6 + by, by == 0);
        y.need(0, 1, 10 + by, 10 - by, 4 * by);
        y.lay(0);
        y.dock(by);
        y.tide(by, 9);
        y.gang(2 + by);
        y.works(0, by == 0 ? 0 : OakYard.NONE);
        y.enter(by, 0, 7 + by, 3 + by);
        y.muster(0, 5 + 2 * by);
        y.choice(10 + by, 2 - by, 3, 1 - by);
        for (int row = 0; row < 3; row++) {
            y.coin(row, by, 10);
        }
        y.sheds(1 + by);
        y.slips(1 + by);
        y.road(0, by);
        y.look(0);
    }

    private static void asked(OakYard y, int by) {
        c.is("lines", y.count(17), by == 0 ? 3 : 1);
        c.is("why", y.why(0, 0, 0), by == 0 ? 0 : OakYard.NONE);
        c.is("work", y.led(0, 1), 6 + by);
        c.is("gangs on it", y.led(0, 11), 1 - by);
        c.is("the tide of today", y.lastTide(0, 0, by), by == 0 ? 0 : 1);
        c.is("plan of gangs", y.gangs(), 3);
        c.is("false of book 0", y.wrong(0), 0);
        c.is("hand of book 0", y.hand(0), by == 0 ? 3 : OakYard.NONE);
        c.is("hand of book 1", y.hand(1), by == 0 ? OakYard.NONE : 4);
        c.is("paid", y.paid(1), by == 0);
        c.is("ready in year 1", y.best(1), 0);
        c.is("ready in year 3", y.best(3), 1 - by);
        int tree = y.fell(0, 0);
        c.is("sort", y.piece(tree, 5), by);
        c.is("length", y.piece(tree, 2), 20 + by);
        c.is("thick", y.piece(tree, 3), 10 + by);
        c.is("on the road", y.piece(tree, 1), 1 - by);
        int[][] knees = {{10, 10, 0}, {9, 10, 0}, {10, 9, 0}, {11, 9, 4}, {11, 9, 2}};
        y.sheds(120);
        for (int n = 0; n < knees.length; n++) {
            int knee = y.buy(1, 0, knees[n][0], knees[n][1], knees[n][2]);
            y.shed(knee);
            c.is("a knee that is enough", y.fit(0, 0, knee, true), n == 3 * by);
            y.out(0, 0);
        }
    }

    /** Nothing of a piece, a tree or a ship that is gone is left in those that come in its stead. */
    private static void nothingIsLeft() {
        OakYard y = new OakYard();
        Check.warrant(y, "fit plank if seen; fit knee", 0);
        y.road(0, 0);
        y.tree(0, 2, 40, 10, 0, 9);
        y.ship(5, 0, true);
        y.need(0, 0, 5, 5, 0);
        y.lay(0);
        y.buy(0, 0, 10, 10, 0);
        y.look(0);
        c.is("looked at", y.may(0, 0, 0), true);
        y.undo();
        y.buy(0, 0, 10, 10, 0);
        c.is("another one in its stead is not", y.may(0, 0, 0), false);
        y.undo();
        y.keep();
        y.fell(0, 0);
        y.days(40);
        y.shed(0);
        y.days(20);
        y.fit(0, 0, 0, true);
        y.look(0);
        y.days(1);
        y.back();
        y.buy(0, 1, 10, 10, 0);
        for (int what = 6; what <= 14; what++) {
            int due = what == 9 || what == 11 || what == 12 || what == 14 ? OakYard.NONE : 0;
            c.is("of another piece in its stead " + what, y.piece(0, what), due);
        }
        y.days(200);
        c.is("no heart is left in it", y.piece(0, 7), 0);
        c.is("a look at it", y.look(0), 0);
        y.back();
        y.tree(0, 0, 30, 10, 0, 0);
        c.is("the tree stands again", y.count(2), 2);
    }

    private static void warrantsBack() {
        OakYard y = yard();
        Check.warrant(y, "fit plank", 0);
        Check.warrant(y, "fit knee; fit plank", 0);
        y.keep();
        c.is("why", y.why(0, 0, 0), 1);
        y.back();
        y.buy(0, 0, 10, 10, 0);
        Check.warrant(y, "fit rope", 0);
        y.undo();
        Check.warrant(y, "look 1; look 2; fit plank", 0);
        c.is("why by another text in its stead", y.why(0, 0, 0), 2);
        y.back();
        c.is("why by the kept text", y.why(0, 0, 0), 1);
        c.is("warrants", y.count(16), 2);
    }

    private static void counts() {
        OakYard y = yard();
        int[] due = {0, 1, 1, 3, 0, 2, 1, 0, 0, 0, 0, 2, 2, 1, 0, 0, 0, 0, 0};
        for (int what = 0; what < due.length; what++) {
            c.is("count(" + what + ")", y.count(what), due[what]);
        }
        c.is("count(19)", y.count(19), OakYard.NONE);
        c.is("count(-1)", y.count(-1), OakYard.NONE);
        y.road(0, 1);
        y.fell(0, 0);
        c.is("on the road", y.count(4), 1);
        y.fit(0, 0, 0, true);
        c.is("in a ship", y.count(7), 1);
        y.launch(1);
        c.is("on slips", y.count(12), 1);
    }
}
