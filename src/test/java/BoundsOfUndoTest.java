import java.util.LinkedHashMap;
import java.util.Map;
import java.util.function.Consumer;

/** Promises 52 to 55 at their bounds: what is undone and what is not, once; the image; and counts. */
final class BoundsOfUndoTest {
    private static final Check c = new Check();
    private static final Refusals rich = new Refusals(c, Yards::rich);

    public static void main(String[] args) {
        promise52NothingToBeUndone();
        promise52EachThatDidSomething();
        promise52WhatWasToldSinceIsGone();
        promise52OtherCallsAreNotUndone();
        promise52TheLastOfThem();
        promise52DayMore();
        promise52TapeAndFaultStay();
        promise52TheImageStays();
        promise53KeepChangesNothing();
        promise54WithoutAnImage();
        promise54AllIsAsItWasKept();
        promise54NothingIsLost();
        promise54WhereOthersCame();
        promise54OnceMore();
        promise54NothingToBeUndone();
        promise54TapeAndFaultStay();
        promise55NoOtherWhat();
        promise55Counts();
        c.end();
    }

    /** The rich yard, whose image is itself, and nothing is there to be undone. */
    private static OakYard settled() {
        OakYard y = Yards.rich();
        y.keep();
        y.back();
        return y;
    }

    /** The same with a ship more that may be launched. */
    private static OakYard settledWithAShip() {
        OakYard y = Yards.rich();
        y.ship(5, 0, false);
        y.lay(7);
        y.keep();
        y.back();
        return y;
    }

    /** The calls that may be undone (but launch), each doing something. */
    private static Map<String, Consumer<OakYard>> undoable() {
        Map<String, Consumer<OakYard>> calls = new LinkedHashMap<>();
        calls.put("fell", y -> c.is("fell", y.fell(2, 0), 15));
        calls.put("buy", y -> c.is("buy", y.buy(1, 2, 10, 10, -3), 15));
        calls.put("shed", y -> c.is("shed", y.shed(3), true));
        calls.put("fit", y -> c.is("fit", y.fit(1, 2, 10, false), true));
        calls.put("fit by force", y -> c.is("fit by force", y.fit(1, 2, 9, true), true));
        calls.put("out", y -> c.is("out", y.out(1, 1), 7));
        calls.put("make", y -> c.is("make", y.make(1, 4), 15));
        calls.put("moor in", y -> c.is("moor in", y.moor(0, 1, true), true));
        calls.put("moor out", y -> c.is("moor out", y.moor(3, 0, false), true));
        calls.put("sail out", y -> c.is("sail out", y.sail(6, true), true));
        calls.put("sail back", y -> c.is("sail back", y.sail(4, false), true));
        calls.put("a day", y -> c.is("a day", y.days(1), 117));
        calls.put("200 days", y -> c.is("200 days", y.days(200), 316));
        return calls;
    }

    /** The calls that may not, each telling something otherwise. */
    private static Map<String, Consumer<OakYard>> others() {
        Map<String, Consumer<OakYard>> calls = new LinkedHashMap<>();
        calls.put("road", y -> y.road(2, 3));
        calls.put("tree", y -> y.tree(2, 2, 33, 12, 1, 9));
        calls.put("sheds", y -> y.sheds(1));
        calls.put("look", y -> y.look(9));
        calls.put("look again", y -> y.look(2));
        calls.put("ship", y -> y.ship(7, 8, true));
        calls.put("need", y -> y.need(2, 1, 10, 10, 4));
        calls.put("slips", y -> y.slips(1));
        calls.put("lay", y -> y.lay(2));
        calls.put("dock", y -> y.dock(-3));
        calls.put("tide", y -> y.tide(4, 9));
        calls.put("gang", y -> y.gang(9));
        calls.put("works", y -> y.works(0, 6));
        calls.put("enter", y -> y.enter(1, 5, 77, 7));
        calls.put("muster", y -> y.muster(7, 7));
        calls.put("choice", y -> y.choice(0, 0, 1, 0));
        calls.put("coin", y -> y.coin(1, 0, 3));
        calls.put("breaks on a slip", y -> y.breaks(1));
        calls.put("breaks in a dock", y -> y.breaks(3));
        return calls;
    }

    /** Promise 52: false, and nothing happens, if there is nothing to be undone; an undo itself is not. */
    private static void promise52NothingToBeUndone() {
        new Refusals(c, OakYard::new).no("promise 52: of a new yard", OakYard::undo);
        new Refusals(c, BoundsOfUndoTest::settled).no("promise 52: behind the image", OakYard::undo);
        new Refusals(c, () -> undone(Yards.rich())).no("promise 52: a second time", OakYard::undo);
    }

    private static OakYard undone(OakYard y) {
        y.undo();
        return y;
    }

    /** Promise 52: each of them is taken back, all is as it was ahead of it, and nothing more may be undone. */
    private static void promise52EachThatDidSomething() {
        Refusals settled = new Refusals(c, BoundsOfUndoTest::settled);
        undoable().forEach((name, call) -> settled.leaves("promise 52: " + name, y -> {
            call.accept(y);
            c.is("promise 52: undo of " + name, y.undo(), true);
            c.is("promise 52: undo of " + name + " again", y.undo(), false);
        }));
        new Refusals(c, BoundsOfUndoTest::settledWithAShip).leaves("promise 52: launch", y -> {
            c.is("promise 52: launch", y.launch(7), true);
            y.works(0, 7);
            c.is("promise 52: undo of launch", y.undo(), true);
        });
    }

    /** Promise 52: what was told otherwise since is gone, too. */
    private static void promise52WhatWasToldSinceIsGone() {
        Refusals settled = new Refusals(c, BoundsOfUndoTest::settled);
        undoable().forEach((name, call) -> settled.leaves("promise 52: " + name + " and more", y -> {
            call.accept(y);
            others().values().forEach(other -> other.accept(y));
            y.undo();
        }));
        others().forEach((name, other) -> settled.leaves("promise 52: " + name + " since", y -> {
            y.buy(0, 0, 10, 10, 0);
            other.accept(y);
            y.undo();
        }));
    }

    /** Promise 52: none of the other calls is undone by itself: what is undone is the one ahead of it. */
    private static void promise52OtherCallsAreNotUndone() {
        Refusals one = new Refusals(c, Yards::rich, () -> undone(Yards.rich()));
        others().forEach((name, other) -> one.leaves("promise 52: " + name, y -> {
            other.accept(y);
            c.is("promise 52: undo of what was ahead of " + name, y.undo(), true);
        }));
        others().forEach((name, other) -> {
            OakYard y = settled();
            other.accept(y);
            c.is("promise 52: undo of " + name + " alone", y.undo(), false);
        });
    }

    /** Promise 52: of several the last alone, and none that is refused. */
    private static void promise52TheLastOfThem() {
        OakYard y = settled();
        y.buy(2, 0, 10, 10, 0);
        y.shed(3);
        y.days(1);
        y.sail(6, true);
        c.is("promise 52: a refused call", y.sail(6, true), false);
        c.is("promise 52: another", y.fell(0, 0), OakYard.NONE);
        c.is("promise 52: undo", y.undo(), true);
        c.is("promise 52: the last is taken back", y.led(6, 0), 2);
        c.is("promise 52: the one ahead of it is not", y.count(0), 117);
        c.is("promise 52: nor one ahead of that", y.piece(3, 1), 2);
        c.is("promise 52: nor the first", y.count(3), 16);
        c.is("promise 52: once", y.undo(), false);
        y.sail(6, true);
        y.sail(6, false);
        c.is("promise 52: undo behind an undo", y.undo(), true);
        c.is("promise 52: at sea", y.led(6, 0), 4);
    }

    /** Promise 52: days, if DAY became more. */
    private static void promise52DayMore() {
        OakYard y = new OakYard();
        y.days(0);
        c.is("promise 52: 0 days", y.undo(), false);
        y.days(1);
        y.days(0);
        c.is("promise 52: 1 day, then 0", y.undo(), true);
        c.is("promise 52: DAY", y.count(0), 0);
        for (int n = 0; n < 20; n++) {
            y.days(200);
        }
        y.days(5);
        c.is("promise 52: on the last DAY no more came", y.undo(), true);
        c.is("promise 52: DAY", y.count(0), 3800);
        y.days(200);
        y.undo();
        y.days(199);
        y.days(5);
        c.is("promise 52: one of 5 days came", y.count(0), 4000);
        y.undo();
        c.is("promise 52: DAY", y.count(0), 3999);
    }

    /** Promise 52: UNDO leaves the TAPE and fault() as they are. */
    private static void promise52TapeAndFaultStay() {
        OakYard y = settled();
        y.buy(0, 0, 10, 10, 0);
        y.end(0);
        Check.type(y, "look 1; look");
        c.refusesNumber("promise 52: a wrong text", () -> y.warrant(116));
        Check.type(y, "look 2; look 3");
        y.undo();
        c.is("promise 52: fault()", y.fault(), 12);
        c.is("promise 52: the tape", y.end(14), true);
        c.is("promise 52: and no more", y.end(15), false);
        c.is("promise 52: its text", y.warrant(116), 2);
        y.buy(0, 0, 10, 10, 0);
        Check.warrant(y, "fit rope", 116);
        y.undo();
        c.is("promise 52: a text since is gone", y.count(16), 3);
        c.is("promise 52: the tape is used up all the same", y.end(1), false);
    }

    /** Promise 52: THE IMAGE is there behind an undo, also one kept since. */
    private static void promise52TheImageStays() {
        Refusals kept = new Refusals(c, Yards::rich, () -> gone(Yards.rich()));
        kept.leaves("promise 52: an image kept ahead", y -> {
            y.undo();
            y.back();
        });
        OakYard y = new OakYard();
        y.buy(0, 0, 10, 10, 0);
        y.keep();
        y.undo();
        c.is("promise 52: an image kept since", y.back(), true);
        c.is("promise 52: with its PIECE", y.count(3), 1);
    }

    private static OakYard gone(OakYard y) {
        y.back();
        return y;
    }

    /** Promise 53: to keep it changes nothing but THE IMAGE, and leaves what may be undone. */
    private static void promise53KeepChangesNothing() {
        Refusals settled = new Refusals(c, BoundsOfUndoTest::settled);
        settled.leaves("promise 53: keep", OakYard::keep);
        settled.leaves("promise 53: keep twice", y -> {
            y.keep();
            y.keep();
        });
        OakYard y = Yards.rich();
        y.keep();
        c.is("promise 53: undo behind keep", y.undo(), true);
        c.is("promise 53: what was undone", y.piece(14, 1), 2);
    }

    /** Promise 54: false, and nothing happens, if none was kept. */
    private static void promise54WithoutAnImage() {
        Refusals none = new Refusals(c, Yards::full);
        none.no("promise 54: none was kept", OakYard::back);
        OakYard y = new OakYard();
        y.buy(0, 0, 10, 10, 0);
        c.is("promise 54: none was kept", y.back(), false);
        c.is("promise 54: what may be undone", y.undo(), true);
        y.keep();
        c.is("promise 54: an empty one", y.back(), true);
    }

    /** Promise 54: all is as it was kept, whatever was called since. */
    private static void promise54AllIsAsItWasKept() {
        Refusals settled = new Refusals(c, BoundsOfUndoTest::settled);
        undoable().forEach((name, call) -> settled.leaves("promise 54: behind " + name, y -> {
            call.accept(y);
            c.is("promise 54: back", y.back(), true);
        }));
        others().forEach((name, other) -> settled.leaves("promise 54: behind " + name, y -> {
            other.accept(y);
            c.is("promise 54: back", y.back(), true);
        }));
        settled.leaves("promise 54: behind all of them", y -> {
            others().values().forEach(other -> other.accept(y));
            y.days(200);
            y.buy(0, 0, 10, 10, 0);
            y.undo();
            y.back();
        });
    }

    /** Promise 54: nothing is lost on the way to THE IMAGE and back, nor by what was there in its stead. */
    private static void promise54NothingIsLost() {
        String due = Everything.ofToday(Yards::rich);
        c.is("promise 54: kept and gone back", Everything.ofToday(BoundsOfUndoTest::settled).equals(due), true);
        String built = Everything.ofToday(() -> {
            OakYard y = new OakYard();
            Yards.build(y);
            return y;
        });
        c.is("promise 54: built again in the stead of what is gone", Everything.ofToday(() -> {
            OakYard y = new OakYard();
            y.keep();
            buildOtherwise(y);
            y.back();
            Yards.build(y);
            return y;
        }).equals(built), true);
    }

    /** Trees, pieces and ships that are unlike those of the rich yard: with hearts, looked at, open, in other places. */
    private static void buildOtherwise(OakYard y) {
        y.road(0, 0);
        y.slips(8);
        y.sheds(120);
        y.dock(40);
        Check.warrant(y, "owe 8", 0);
        for (int n = 0; n < 16; n++) {
            y.tree(0, 2, 77, 44, -7, 9);
            y.fell(n, n < 8 ? 1 : n % 3);
        }
        y.days(160);
        for (int p = 0; p < 16; p++) {
            y.shed(p);
            y.look(p);
        }
        y.days(60);
        for (int x = 0; x < 8; x++) {
            y.ship(30, 0, true);
            y.need(x, 1, 70, 40, -8);
            y.lay(x);
            y.fit(x, 0, x, true);
            y.launch(x);
            y.moor(x, 0, x == 7);
            y.sail(x, true);
            y.gang(40);
            y.works(x, x);
        }
        y.days(200);
    }

    /** Promise 54: what THE IMAGE has is there again, also where an undo took it and others came in its stead. */
    private static void promise54WhereOthersCame() {
        for (int by = 0; by <= 1; by++) {
            int first = by;
            String due = Everything.ofToday(() -> told(onDay4(), first));
            c.is("promise 54: others in its stead, way " + by, Everything.ofToday(() -> {
                OakYard y = told(onDay4(), first);
                y.keep();
                y.undo();
                told(y, 1 - first);
                y.back();
                return y;
            }).equals(due), true);
            c.is("promise 52: others that are undone, way " + by, Everything.ofToday(() -> {
                OakYard y = told(onDay4(), 1 - first);
                y.undo();
                told(y, first);
                y.days(3);
                y.undo();
                return y;
            }).equals(due), true);
        }
    }

    private static OakYard onDay4() {
        OakYard y = new OakYard();
        y.days(4);
        return y;
    }

    /** A piece bought, and all that calls tell that are not undone: in one of two ways, each number otherwise. */
    private static OakYard told(OakYard y, int by) {
        y.buy(1 + by, by, 30 + by, 20 + by, 3 - 3 * by);
        y.end(0);
        Check.warrant(y, by == 0 ? "fit knee if oak; look 9" : "look 7; fit mast; chip 6", 4 + by);
        Check.warrant(y, by == 0 ? "chip 5" : "fit knee; fit mast; owe 5", 7 + by);
        y.look(0);
        y.sheds(1 + by);
        y.slips(2 + by);
        for (int n = 0; n < 3; n++) {
            y.road(n, 7 * by + n);
            y.tree(n + by, 2 - by, 20 + n + by, 10 + n + 2 * by, n - 3 * by, 9 - 4 * by);
            y.ship(5 + n + by, 10 - n - by, n == by);
            y.need(n, 1 + by, 12 + n + by, 8 + n + 2 * by, (2 + n) * (1 - by));
            y.need(n, 2 * by, 5 + by, 6 - by, 0);
            y.dock(2 * n + 3 * by);
            y.tide(n + by, 3 + 2 * by);
            y.gang(4 + n + by);
            y.enter((n + by) % 2, 1 + by, 5 + n + 3 * by, 3 + n + by);
            y.muster(2 - by - n % 2, 5 + 2 * by + n);
            y.choice(10 + n + by, 3 * by + n, by == 0 ? 1 + n : 5 - 2 * n, 1 + by);
            y.coin(n, by, 17 + 2 * n + by);
        }
        y.lay(by);
        y.lay(2);
        y.works(0, by);
        y.works(1, 2 - by);
        return y;
    }

    /** Promise 54: one may go back to it again; there is one image, the last that was kept. */
    private static void promise54OnceMore() {
        Refusals settled = new Refusals(c, BoundsOfUndoTest::settled);
        settled.leaves("promise 54: twice", y -> {
            y.days(3);
            y.back();
            y.days(5);
            y.back();
        });
        OakYard y = settled();
        y.days(1);
        y.keep();
        y.days(1);
        y.back();
        c.is("promise 54: the last that was kept", y.count(0), 117);
        y.back();
        c.is("promise 54: not one kept ahead", y.count(0), 117);
    }

    /** Promise 54: gone back to THE IMAGE nothing is there to be undone. */
    private static void promise54NothingToBeUndone() {
        OakYard y = Yards.rich();
        c.is("promise 54: back", y.back(), true);
        c.is("promise 54: undo", y.undo(), false);
        y.keep();
        y.days(1);
        y.back();
        c.is("promise 54: undo of what came behind keep", y.undo(), false);
        y.days(1);
        c.is("promise 54: undo of what came behind back", y.undo(), true);
    }

    /** Promise 54: THE IMAGE leaves the TAPE and fault() as they are. */
    private static void promise54TapeAndFaultStay() {
        OakYard y = settled();
        y.end(0);
        Check.type(y, "look 1; look");
        c.refusesNumber("promise 54: a wrong text", () -> y.warrant(116));
        Check.type(y, "look 2; look 3");
        y.back();
        c.is("promise 54: fault()", y.fault(), 12);
        c.is("promise 54: the tape", y.end(14) && !y.end(15), true);
        c.is("promise 54: its text", y.warrant(116), 2);
        y.back();
        c.is("promise 54: fault() of that", y.fault(), OakYard.NONE);
        c.is("promise 54: the tape is used up all the same", y.end(1), false);
        c.is("promise 54: the text is gone", y.count(16), 2);
    }

    /** Promise 55: what is 0 to 18; NONE for another. */
    private static void promise55NoOtherWhat() {
        for (int what : new int[] {-1, 19, Integer.MIN_VALUE, Integer.MAX_VALUE}) {
            rich.none("promise 55: what " + what, y -> y.count(what));
        }
        rich.leaves("promise 55: asking", y -> y.count(7));
    }

    /** Promise 55: of an empty yard 0 each, of a full one the most. */
    private static void promise55Counts() {
        int[] richest = {116, 4, 2, 15, 1, 1, 5, 4, 1, 2, 1, 7, 1, 2, 3, 112, 2, 5, 1};
        int[] fullest = {0, 60, 60, 120, 0, 120, 0, 0, 0, 0, 0, 8, 0, 4, 8, 0, 10, 1, 0};
        for (int what = 0; what <= 18; what++) {
            c.is("promise 55: of an empty yard " + what, new OakYard().count(what), 0);
            c.is("promise 55: of the rich yard " + what, Yards.rich().count(what), richest[what]);
            c.is("promise 55: of the full yard " + what, Yards.full().count(what), fullest[what]);
        }
        OakYard y = new OakYard();
        Check.warrant(y, "", 0);
        c.is("promise 55: WARRANTS without LINES", y.count(16), 1);
        c.is("promise 55: no LINES", y.count(17), 0);
        Check.warrant(y, "look 1;".repeat(11) + "look 2", 1);
        c.is("promise 55: not those of tomorrow", y.count(17), 0);
        y.days(1);
        c.is("promise 55: 12 LINES of TODAY", y.count(17), 12);
    }
}
