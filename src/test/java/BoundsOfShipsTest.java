/** Promises 16 to 26 at their bounds: ships, needs, slips, what is fit and taken out, the least waste, masts, launching. */
final class BoundsOfShipsTest {
    private static final Check c = new Check();
    private static final Refusals rich = new Refusals(c, Yards::rich);
    private static final Refusals full = new Refusals(c, Yards::full);

    public static void main(String[] args) {
        promise16Numbers();
        promise16ShipsAreAtMost8();
        promise17Numbers();
        promise17BendsOfKinds();
        promise17NeedsAreAtMost8();
        promise17NotOnPaper();
        promise18Numbers();
        promise18ShipsOnThemStay();
        promise19NotOnPaperOrNoSlip();
        promise20NoSuch();
        promise20TheShipAndTheNeed();
        promise20ThePiece();
        promise20Enough();
        promise20MayOrForce();
        promise21NotFitOrNotThere();
        promise21IntoThePond();
        promise22AllOrNone();
        promise22OfTrees();
        promise22JustEnough();
        promise23NeedAndWay();
        promise23OfSeveralTheLeastNumbers();
        promise24HowManyMasts();
        promise24TheFirst8();
        promise24Joints();
        promise24OfSeveral();
        promise25NoneAndNothing();
        promise25WhatIsMade();
        promise25OfTheFirstTheLeastAndTheGreatest();
        promise26Refusals();
        promise26JustReady();
        c.end();
    }

    /** Promise 16: DEEP 1 to 40, WORK 0 to 5000. */
    private static void promise16Numbers() {
        rich.numbers("promise 16: DEEP", 1, 40, (y, n) -> y.ship(n, 0, false));
        rich.numbers("promise 16: WORK", 0, 5000, (y, n) -> y.ship(5, n, true));
        OakYard y = new OakYard();
        y.ship(1, 5000, false);
        y.ship(40, 0, true);
        int[][] due = {{0, 5000, 0, 0, -1, -1, 0, 0, 0, 1, 0, 0}, {0, 0, 0, 0, -1, -1, 0, 0, 0, 40, 0, 0}};
        for (int what = 0; what <= 11; what++) {
            c.is("promise 16: of the first ship " + what, y.led(0, what), due[0][what]);
            c.is("promise 16: of the second ship " + what, y.led(1, what), due[1][what]);
        }
    }

    /** Promise 16: SHIPS are at most 8; a wrong number is told ahead of that. */
    private static void promise16ShipsAreAtMost8() {
        OakYard y = new OakYard();
        for (int n = 0; n < 8; n++) {
            c.is("promise 16: ship " + n, y.ship(5, 5, false), n);
        }
        c.is("promise 16: a NEED of the 8th", y.need(7, 0, 5, 5, 0), 0);
        full.more("promise 16: a 9th ship", x -> x.ship(5, 5, false));
        full.number("promise 16: a wrong 9th ship", x -> x.ship(41, 5, false));
    }

    /** Promise 17: no such SHIP ahead of a wrong number; kind 0 to 3, LONG 1 to 300, THICK 1 to 60, BEND - 9 to 9. */
    private static void promise17Numbers() {
        for (int ship : new int[] {-1, 7, Integer.MIN_VALUE, Integer.MAX_VALUE}) {
            rich.index("promise 17: SHIP " + ship, y -> y.need(ship, 0, 5, 5, 0));
            rich.index("promise 17: a wrong NEED of SHIP " + ship, y -> y.need(ship, 4, 0, 0, 1));
        }
        rich.numbers("promise 17: kind", 0, 3, (y, n) -> y.need(2, n, 5, 5, 0));
        rich.numbers("promise 17: LONG", 1, 300, (y, n) -> y.need(2, 0, n, 5, 0));
        rich.numbers("promise 17: THICK", 1, 60, (y, n) -> y.need(2, 0, 5, n, 0));
        rich.numbers("promise 17: BEND of a KNEE", -9, 9, (y, n) -> y.need(2, 1, 5, 5, n));
    }

    /** Promise 17: BEND 0 but of a KNEE. */
    private static void promise17BendsOfKinds() {
        for (int kind : new int[] {0, 2, 3}) {
            rich.numbers("promise 17: BEND of kind " + kind, 0, 0, (y, n) -> y.need(2, kind, 5, 5, n));
        }
    }

    /** Promise 17: NONE, and it does not come, if it has 8; a wrong number is told ahead of that. */
    private static void promise17NeedsAreAtMost8() {
        OakYard y = new OakYard();
        y.ship(5, 5, false);
        for (int n = 0; n < 8; n++) {
            c.is("promise 17: need " + n, y.need(0, 0, 5, 5, 0), n);
            c.is("promise 17: needs", y.led(0, 2), n + 1);
        }
        full.none("promise 17: a 9th need", x -> x.need(0, 0, 5, 5, 0));
        full.number("promise 17: a wrong 9th need", x -> x.need(0, 0, 301, 5, 0));
        y.lay(0);
        c.refuses("promise 17: a 9th need on a SLIP", IllegalStateException.class, () -> y.need(0, 0, 5, 5, 0));
    }

    /** Promise 17: the SHIP is not on paper, but in any other state; a wrong number is told ahead of that. */
    private static void promise17NotOnPaper() {
        for (int ship : new int[] {0, 1, 3, 4, 5, 6}) {
            rich.refuses("promise 17: ship " + ship + " is not on paper", IllegalStateException.class,
                    y -> y.need(ship, 0, 5, 5, 0));
            rich.number("promise 17: a wrong need of ship " + ship, y -> y.need(ship, 0, 5, 61, 0));
        }
        c.is("promise 17: ship 2 is on paper", Yards.rich().need(2, 0, 5, 5, 0), 2);
    }

    /** Promise 18: SLIPS 1 to 8. */
    private static void promise18Numbers() {
        rich.numbers("promise 18: SLIPS", 1, 8, OakYard::slips);
        for (int slips : new int[] {1, 2, 7, 8}) {
            OakYard y = new OakYard();
            y.slips(slips);
            for (int x = 0; x < 8; x++) {
                y.ship(5, 0, false);
                c.is("promise 18: ship " + x + " on " + slips + " SLIPS", y.lay(x), x < slips);
            }
            c.is("promise 18: ships on SLIPS", y.count(12), slips);
        }
    }

    /** Promise 18: SHIPS on them stay, and no more come until fewer are there. */
    private static void promise18ShipsOnThemStay() {
        OakYard y = new OakYard();
        y.slips(3);
        for (int x = 0; x < 4; x++) {
            y.ship(5, 0, false);
            y.lay(x);
        }
        y.slips(2);
        c.is("promise 18: 3 stay on 2 SLIPS", y.count(12), 3);
        c.is("promise 18: 3 on 2", y.lay(3), false);
        y.launch(0);
        c.is("promise 18: 2 on 2", y.lay(3), false);
        y.breaks(1);
        c.is("promise 18: 1 on 2", y.lay(3), true);
    }

    /** Promise 19: false, and nothing happens, if it is not on paper, or there is no SLIP free. */
    private static void promise19NotOnPaperOrNoSlip() {
        rich.indices("promise 19: SHIP", 7, (y, n) -> y.lay(n));
        for (int ship : new int[] {0, 1, 3, 4, 5, 6}) {
            rich.no("promise 19: ship " + ship + " is not on paper", y -> y.lay(ship));
        }
        c.is("promise 19: 1 ship on 2 SLIPS", withSlips(2).lay(2), true);
        new Refusals(c, () -> withSlips(1)).no("promise 19: 1 ship on 1 SLIP", y -> y.lay(2));
    }

    private static OakYard withSlips(int n) {
        OakYard y = Yards.rich();
        y.slips(n);
        return y;
    }

    /** Promise 20: there is no such SHIP, NEED or PIECE, also where it could not be FIT anyway. */
    private static void promise20NoSuch() {
        rich.indices("promise 20: SHIP", 3, 7, (y, n) -> y.fit(n, 0, 10, true));
        rich.indices("promise 20: NEED", 5, (y, n) -> y.fit(1, n, 10, true));
        rich.indices("promise 20: PIECE", 15, (y, n) -> y.fit(1, 2, n, true));
        rich.index("promise 20: no NEED of a ship without", y -> y.fit(6, 0, 10, true));
        rich.index("promise 20: no PIECE for a NEED that is FIT", y -> y.fit(1, 0, 15, false));
        rich.index("promise 20: no PIECE for a ship afloat", y -> y.fit(0, 0, -1, false));
    }

    /** Promise 20: false, and nothing happens, but while the SHIP is on the SLIP or in a DOCK, and if the NEED is FIT. */
    private static void promise20TheShipAndTheNeed() {
        rich.no("promise 20: on paper", y -> y.fit(2, 1, 10, true));
        rich.no("promise 20: a NEED that is FIT", y -> y.fit(1, 0, 10, true));
        for (int state = 0; state <= 5; state++) {
            OakYard y = inState(state);
            c.is("promise 20: the state", y.led(0, 0), state);
            c.is("promise 20: in state " + state, y.fit(0, 1, 1, true), state == 1 || state == 3);
        }
        for (int state : new int[] {0, 2, 4, 5}) {
            int each = state;
            new Refusals(c, () -> inState(each)).no("promise 20: in state " + state, y -> y.fit(0, 1, 1, true));
        }
    }

    /** A ship with two needs in such a state (in 2 to 4 one of them was taken out in a dock), a plank in the shed. */
    private static OakYard inState(int state) {
        OakYard y = new OakYard();
        Check.warrant(y, "fit plank", 0);
        y.dock(20);
        for (int p = 0; p < 3; p++) {
            y.buy(0, 0, 10, 10, 0);
            y.shed(p);
        }
        y.ship(5, 0, false);
        y.need(0, 0, 10, 10, 0);
        y.need(0, 0, 10, 10, 0);
        if (state > 0) {
            y.lay(0);
            y.fit(0, 0, 0, false);
        }
        if (state > 1) {
            y.fit(0, 1, 2, false);
            y.launch(0);
            y.moor(0, 0, true);
            y.out(0, 1);
        }
        if (state != 3) {
            y.moor(0, 0, false);
        }
        if (state == 4) {
            y.sail(0, true);
        }
        if (state == 5) {
            y.breaks(0);
        }
        return y;
    }

    /** Promise 20: from the shed, and from no other place, not by force either. */
    private static void promise20ThePiece() {
        rich.no("promise 20: on the road", y -> y.fit(1, 4, 13, true));
        rich.no("promise 20: in the pond", y -> y.fit(1, 4, 3, true));
        rich.no("promise 20: in this ship", y -> y.fit(1, 2, 12, true));
        rich.no("promise 20: carried home", y -> y.fit(1, 2, 0, true));
        rich.no("promise 20: used up", y -> y.fit(1, 4, 5, true));
        rich.no("promise 20: rotted", y -> y.fit(1, 2, 1, true));
        rich.no("promise 20: another kind", y -> y.fit(1, 4, 10, true));
        c.is("promise 20: in the shed", Yards.rich().fit(1, 4, 6, true), true);
        OakYard y = inState(1);
        y.ship(5, 0, false);
        y.need(1, 0, 10, 10, 0);
        y.lay(1);
        c.is("promise 20: in another ship", y.fit(1, 0, 0, true), false);
        c.is("promise 20: in the shed", y.fit(1, 0, 1, true), true);
    }

    /** Promise 20: at least so LONG and so THICK; of a KNEE a BEND within 1. */
    private static void promise20Enough() {
        for (int kind = 0; kind <= 3; kind++) {
            c.is("promise 20: just enough of kind " + kind, fits(kind, 10, 10, 0, 0), true);
            c.is("promise 20: more than enough of kind " + kind, fits(kind, 11, 11, 0, 0), true);
            c.is("promise 20: too short by 1 of kind " + kind, fits(kind, 9, 10, 0, 0), false);
            c.is("promise 20: too thin by 1 of kind " + kind, fits(kind, 10, 9, 0, 0), false);
        }
        int[] wants = {-9, -1, 0, 1, 9};
        for (int want : wants) {
            for (int bend = Math.max(-9, want - 3); bend <= Math.min(9, want + 3); bend++) {
                boolean due = bend >= want - 1 && bend <= want + 1;
                c.is("promise 20: BEND " + bend + " for " + want, fits(1, 10, 10, bend, want), due);
            }
        }
        c.is("promise 20: BEND -9 for 9", fits(1, 10, 10, -9, 9), false);
    }

    /** Whether such a piece fits a need of its kind, 10 long and 10 thick, and bent so. */
    private static boolean fits(int kind, int length, int thick, int bend, int want) {
        OakYard y = new OakYard();
        y.buy(kind, 0, length, thick, bend);
        y.shed(0);
        y.ship(5, 0, false);
        y.need(0, kind, 10, 10, want);
        y.lay(0);
        return y.fit(0, 0, 0, true);
    }

    /** Promise 20: by force what MAY NOT go in is BAD; what MAY is not, by force or not. */
    private static void promise20MayOrForce() {
        boolean[] both = {false, true};
        for (boolean may : both) {
            for (boolean force : both) {
                OakYard y = new OakYard();
                Check.warrant(y, may ? "fit plank" : "fit knee; fit mast; fit rope", 0);
                Check.warrant(y, may ? "" : "fit plank", 1);
                y.buy(0, 0, 10, 10, 0);
                y.shed(0);
                y.ship(5, 0, false);
                y.need(0, 0, 10, 10, 0);
                y.lay(0);
                c.is("promise 20: may " + may + ", force " + force, y.fit(0, 0, 0, force), may || force);
                c.is("promise 20: BAD", y.piece(0, 13), force && !may ? 1 : 0);
                c.is("promise 20: BAD PIECES", y.led(0, 8), force && !may ? 1 : 0);
                y.days(1);
                c.is("promise 20: BAD as it went in", y.piece(0, 13), force && !may ? 1 : 0);
            }
        }
        rich.no("promise 20: one that MAY NOT", y -> y.fit(1, 2, 9, false));
        c.is("promise 20: one that MAY NOT, by force", Yards.rich().fit(1, 2, 9, true), true);
        c.is("promise 20: one that MAY", Yards.rich().fit(1, 2, 10, false), true);
    }

    /** Promise 21: NONE, and nothing happens, if it is not FIT, or the SHIP is neither on the SLIP nor in a DOCK. */
    private static void promise21NotFitOrNotThere() {
        rich.indices("promise 21: SHIP", 3, 7, (y, n) -> y.out(n, 0));
        rich.indices("promise 21: NEED", 5, (y, n) -> y.out(1, n));
        rich.index("promise 21: no NEED of a ship without", y -> y.out(3, 0));
        rich.none("promise 21: not FIT", y -> y.out(1, 2));
        rich.none("promise 21: on paper", y -> y.out(2, 0));
        rich.none("promise 21: afloat", y -> y.out(0, 0));
        for (int state = 0; state <= 5; state++) {
            int each = state;
            if (state == 1 || state == 3) {
                c.is("promise 21: in state " + state, inState(state).out(0, 0), 0);
            } else {
                new Refusals(c, () -> inState(each)).none("promise 21: in state " + state, y -> y.out(0, 0));
            }
        }
    }

    /** Promise 21: into the pond, where no room is asked; it is BAD no more, in no SHIP, and its NEED is open. */
    private static void promise21IntoThePond() {
        OakYard y = Yards.rich();
        c.is("promise 21: out", y.out(1, 1), 7);
        int[] due = {1, 1, 20, 10, 4, 1, 0, 14, 0, -1, 102, -1, -1, 0, 102};
        for (int what = 0; what < due.length; what++) {
            c.is("promise 21: of it " + what, y.piece(7, what), due[what]);
        }
        c.is("promise 21: FIT", y.led(1, 3), 2);
        c.is("promise 21: BAD", y.led(1, 8), 0);
        c.is("promise 21: out again", y.out(1, 1), OakYard.NONE);
        y.shed(7);
        c.is("promise 21: in again", y.fit(1, 1, 7, true), true);
    }

    /** Promise 22: 0 without NEEDS to be FIT; NONE, if not all can be; each PIECE for one NEED. */
    private static void promise22AllOrNone() {
        rich.indices("promise 22: SHIP", 7, (y, n) -> y.waste(n, false));
        rich.indices("promise 22: SHIP", 7, (y, n) -> y.waste(n, true));
        rich.leaves("promise 22: asking", y -> y.waste(1, false));
        rich.leaves("promise 22: asking of trees", y -> y.waste(1, true));
        c.is("promise 22: all FIT", Yards.rich().waste(0, false), 0);
        c.is("promise 22: all FIT, of trees", Yards.rich().waste(0, true), 0);
        c.is("promise 22: without NEEDS", Yards.rich().waste(5, false), 0);
        for (int needs = 1; needs <= 8; needs++) {
            c.is("promise 22: " + needs + " PIECES for as many NEEDS", planks(needs, needs).waste(0, false), 0);
            c.is("promise 22: one PIECE fewer", planks(needs, needs - 1).waste(0, false), OakYard.NONE);
            c.is("promise 22: one PIECE more", planks(needs, needs + 1).waste(0, false), 0);
        }
        OakYard y = planks(2, 2);
        y.end(0);
        Check.warrant(y, "fit plank if long > 10", 0);
        c.is("promise 22: such as MAY GO IN alone", y.waste(0, false), OakYard.NONE);
    }

    /** A ship on a slip with so many needs of planks, so many planks that are just enough in the shed. */
    private static OakYard planks(int needs, int planks) {
        OakYard y = new OakYard();
        Check.warrant(y, "fit plank", 0);
        y.ship(5, 0, false);
        for (int n = 0; n < needs; n++) {
            y.need(0, 0, 10, 10, 0);
        }
        y.lay(0);
        for (int p = 0; p < planks; p++) {
            y.buy(0, 0, 10, 10, 0);
            y.shed(p);
        }
        return y;
    }

    /** Promise 22: TREES that stand, each as one PIECE of the KIND of the NEED; ROPE by none. */
    private static void promise22OfTrees() {
        OakYard y = new OakYard();
        y.ship(5, 0, false);
        y.need(0, 0, 10, 10, 0);
        y.ship(5, 0, false);
        y.need(1, 1, 10, 10, 8);
        y.ship(5, 0, false);
        y.need(2, 3, 1, 1, 0);
        y.ship(5, 0, false);
        y.need(3, 2, 5, 5, 0);
        y.tree(0, 0, 18, 10, 9, 0);
        c.is("promise 22: a TREE of 18 bent by 9 is a PLANK of 9", y.waste(0, true), OakYard.NONE);
        c.is("promise 22: a KNEE of 18", y.waste(1, true), 8);
        c.is("promise 22: no ROPE", y.waste(2, true), OakYard.NONE);
        c.is("promise 22: a MAST of 9", y.waste(3, true), 9);
        y.tree(0, 0, 19, 10, -9, 0);
        c.is("promise 22: one of 19 is a PLANK of 10", y.waste(0, true), 0);
        y.fell(1, 1);
        c.is("promise 22: it stands no more", y.waste(0, true), OakYard.NONE);
        y.tree(0, 0, 6, 5, 3, 0);
        c.is("promise 22: a MAST of 5 at least", y.waste(3, true), 0);
    }

    /** Promise 22: PIECES from the shed alone, just enough; too short, too thin or too bent by 1 are none. */
    private static void promise22JustEnough() {
        int[][] pieces = {{10, 10, 3, 0}, {10, 10, 2, 0}, {10, 10, 4, 0}, {10, 10, 1, -1}, {10, 10, 5, -1}, {9, 10, 3, -1},
            {10, 9, 3, -1}, {12, 10, 3, 2}, {10, 13, 3, 3}, {12, 13, 3, 5}};
        for (int[] p : pieces) {
            OakYard y = new OakYard();
            Check.warrant(y, "fit knee", 0);
            y.ship(5, 0, false);
            y.need(0, 1, 10, 10, 3);
            y.buy(1, 0, p[0], p[1], p[2]);
            c.is("promise 22: in the pond", y.waste(0, false), OakYard.NONE);
            y.shed(0);
            c.is("promise 22: a KNEE of " + p[0] + ", " + p[1] + ", " + p[2], y.waste(0, false), p[3]);
        }
    }

    /** Promise 23: NONE, if the NEED is FIT, or there is no way for all of them. */
    private static void promise23NeedAndWay() {
        rich.indices("promise 23: SHIP", 3, 7, (y, n) -> y.which(n, 0, false));
        rich.indices("promise 23: NEED", 5, (y, n) -> y.which(1, n, true));
        rich.index("promise 23: no NEED of a ship without", y -> y.which(4, 0, true));
        rich.leaves("promise 23: asking", y -> y.which(1, 2, true));
        c.is("promise 23: a NEED that is FIT", Yards.rich().which(1, 0, true), OakYard.NONE);
        c.is("promise 23: no way for another NEED", Yards.rich().which(1, 2, false), OakYard.NONE);
        OakYard y = planks(3, 4);
        y.fit(0, 1, 2, false);
        c.is("promise 23: FIT", y.which(0, 1, false), OakYard.NONE);
        c.is("promise 23: the first", y.which(0, 0, false), 0);
        c.is("promise 23: the last", y.which(0, 2, false), 1);
        c.is("promise 23: no TREE", y.which(0, 0, true), OakYard.NONE);
        c.is("promise 23: 8 NEEDS, the last", planks(8, 9).which(0, 7, false), 7);
        c.is("promise 23: one PIECE fewer", planks(8, 7).which(0, 0, false), OakYard.NONE);
    }

    /** Promise 23: of several ways that in which the first NEED has the least number, then the next one. */
    private static void promise23OfSeveralTheLeastNumbers() {
        OakYard y = new OakYard();
        y.sheds(120);
        Check.warrant(y, "fit plank", 0);
        for (int p = 0; p < 120; p++) {
            y.buy(0, 0, p < 112 ? 9 : 10, 10, 0);
            y.shed(p);
        }
        y.ship(5, 0, false);
        for (int n = 0; n < 8; n++) {
            y.need(0, 0, 10, 10, 0);
        }
        for (int n = 0; n < 8; n++) {
            c.is("promise 23: PIECES with the greatest numbers", y.which(0, n, false), 112 + n);
        }
        OakYard trees = new OakYard();
        for (int t = 0; t < 60; t++) {
            trees.tree(0, 0, t < 52 ? 9 : 10, 10, 0, 0);
        }
        trees.ship(5, 0, false);
        for (int n = 0; n < 8; n++) {
            trees.need(0, n % 3, 10, 10, 0);
        }
        for (int n = 0; n < 8; n++) {
            c.is("promise 23: TREES with the greatest numbers", trees.which(0, n, true), 52 + n);
        }
    }

    /** Promise 24: NONE but of a NEED of a MAST, and of fewer than two MASTS in pond or shed. */
    private static void promise24HowManyMasts() {
        rich.indices("promise 24: SHIP", 3, 7, (y, n) -> y.masts(n, 0));
        rich.indices("promise 24: NEED", 5, (y, n) -> y.masts(1, n));
        rich.index("promise 24: no NEED of a ship without", y -> y.masts(6, 0));
        rich.leaves("promise 24: asking", y -> y.masts(1, 4));
        OakYard y = Yards.rich();
        for (int need = 0; need <= 3; need++) {
            c.is("promise 24: no NEED of a MAST", y.masts(1, need), OakYard.NONE);
        }
        c.is("promise 24: one in the pond, one in the shed", y.masts(1, 4), 3);
        for (int masts = 0; masts <= 2; masts++) {
            c.is("promise 24: of " + masts + " MASTS", masts(1, masts, 50).masts(0, 0), masts < 2 ? OakYard.NONE : 3);
        }
        OakYard away = masts(1, 3, 50);
        away.tree(0, 0, 50, 10, 0, 0);
        away.fell(0, 2);
        away.make(0, 0);
        c.is("promise 24: not those used up", away.masts(0, 0), 3);
        away.lay(0);
        away.fit(0, 0, 4, true);
        c.is("promise 24: nor one in a ship and one on the road", away.masts(0, 0), OakYard.NONE);
    }

    /** So many masts of such a length, 10 thick, in the pond, and a need of a mast so long. */
    private static OakYard masts(int need, int masts, int length) {
        OakYard y = new OakYard();
        y.ship(5, 0, false);
        y.need(0, 2, need, 10, 0);
        for (int n = 0; n < masts; n++) {
            y.buy(2, 0, length, 10, 0);
        }
        return y;
    }

    /** Promise 24: of at most 8 MASTS, the first by numbers. */
    private static void promise24TheFirst8() {
        c.is("promise 24: 7 of 8 MASTS", masts(46, 8, 10).masts(0, 0), 127);
        c.is("promise 24: all 8 MASTS", masts(47, 8, 10).masts(0, 0), 255);
        c.is("promise 24: 8 of 9 MASTS", masts(52, 9, 10).masts(0, 0), 255);
        c.is("promise 24: not 9 of 9 MASTS", masts(53, 9, 10).masts(0, 0), OakYard.NONE);
        OakYard y = masts(60, 7, 10);
        y.buy(0, 0, 60, 10, 0);
        y.buy(2, 0, 60, 10, 0);
        y.buy(2, 0, 54, 10, 0);
        c.is("promise 24: the 8th, behind a plank", y.masts(0, 0), 129);
        OakYard later = masts(60, 8, 10);
        later.buy(2, 0, 54, 10, 0);
        c.is("promise 24: not the 9th", later.masts(0, 0), OakYard.NONE);
    }

    /** Promise 24: as LONG as all together less 4 for each joint, as THICK as the least of them. */
    private static void promise24Joints() {
        for (int masts = 2; masts <= 8; masts++) {
            int length = 30 * masts - 4 * (masts - 1);
            c.is("promise 24: " + masts + " just enough", masts(length, masts, 30).masts(0, 0), (1 << masts) - 1);
            c.is("promise 24: " + masts + " too short by 1", masts(length + 1, masts, 30).masts(0, 0), OakYard.NONE);
        }
        c.is("promise 24: 300 long", masts(300, 4, 78).masts(0, 0), 15);
        c.is("promise 24: 300 long, too short by 4", masts(300, 4, 77).masts(0, 0), OakYard.NONE);
        for (int thick = 9; thick <= 11; thick++) {
            OakYard y = masts(40, 1, 30);
            y.buy(2, 0, 30, thick, 0);
            c.is("promise 24: " + thick + " and 10 thick", y.masts(0, 0), thick < 10 ? OakYard.NONE : 3);
        }
        OakYard thickest = new OakYard();
        thickest.ship(5, 0, false);
        thickest.need(0, 2, 40, 60, 0);
        thickest.buy(2, 0, 30, 60, 0);
        thickest.buy(2, 0, 30, 60, 0);
        c.is("promise 24: both 60 thick", thickest.masts(0, 0), 3);
    }

    /** Promise 24: the set of the least WASTE, of several the fewest, then the least bits. */
    private static void promise24OfSeveral() {
        c.is("promise 24: the least bits of 28 pairs", masts(16, 8, 10).masts(0, 0), 3);
        OakYard y = masts(16, 3, 8);
        c.is("promise 24: three", y.masts(0, 0), 7);
        y.buy(2, 0, 10, 10, 0);
        y.buy(2, 0, 10, 10, 0);
        c.is("promise 24: two rather than three, though of more bits", y.masts(0, 0), 24);
        y.buy(2, 0, 10, 10, 0);
        c.is("promise 24: the least bits of three pairs", y.masts(0, 0), 24);
        OakYard thick = masts(16, 1, 10);
        thick.buy(2, 0, 10, 11, 0);
        thick.buy(2, 0, 10, 12, 0);
        c.is("promise 24: waste of the thickness too", thick.masts(0, 0), 3);
        OakYard less = new OakYard();
        less.ship(5, 0, false);
        less.need(0, 2, 16, 10, 0);
        less.buy(2, 0, 12, 11, 0);
        less.buy(2, 0, 10, 11, 0);
        less.buy(2, 0, 9, 10, 0);
        c.is("promise 24: 1 longer rather than 2 longer or 2 and 1", less.masts(0, 0), 5);
    }

    /** Promise 25: NONE, and nothing happens, without such a set, or if there are 120 PIECES. */
    private static void promise25NoneAndNothing() {
        rich.indices("promise 25: SHIP", 3, 7, (y, n) -> y.make(n, 0));
        rich.indices("promise 25: NEED", 5, (y, n) -> y.make(1, n));
        rich.index("promise 25: no NEED of a ship without", y -> y.make(3, 0));
        rich.none("promise 25: no NEED of a MAST", y -> y.make(1, 2));
        rich.none("promise 25: of another ship", y -> y.make(2, 0));
        new Refusals(c, () -> masts(60, 1, 70)).none("promise 25: one MAST", y -> y.make(0, 0));
        new Refusals(c, () -> masts(60, 2, 31)).none("promise 25: too short", y -> y.make(0, 0));
        c.is("promise 25: just enough", masts(60, 2, 32).make(0, 0), 2);
        new Refusals(c, () -> masts(60, 120, 40)).none("promise 25: 120 PIECES", y -> y.make(0, 0));
        c.is("promise 25: 119 PIECES", masts(60, 119, 40).make(0, 0), 119);
        full.none("promise 25: 120 PIECES of all kinds", y -> y.make(0, 2));
    }

    /** Promise 25: DRY the least, ROT the greatest, nothing by HEART so far; no room is asked; that NEED may be FIT. */
    private static void promise25WhatIsMade() {
        OakYard y = Yards.rich();
        y.sheds(1);
        c.is("promise 25: made", y.make(1, 4), 15);
        int[] due = {2, 2, 87, 9, 0, 2, 0, 23, 0, -1, 0, -1, -1, 0, 116};
        for (int what = 0; what < due.length; what++) {
            c.is("promise 25: of it " + what, y.piece(15, what), due[what]);
        }
        c.is("promise 25: used up", y.count(9), 4);
        c.is("promise 25: one used up stays in no ship", y.piece(6, 11), OakYard.NONE);
        c.is("promise 25: it went into the shed today", y.fellows(15), 2);
        c.is("promise 25: fit", y.fit(1, 4, 15, true), true);
        OakYard again = masts(60, 3, 40);
        again.lay(0);
        c.is("promise 25: one is made", again.make(0, 0), 3);
        again.fit(0, 0, 3, true);
        again.buy(2, 0, 40, 10, 0);
        c.is("promise 25: also for a NEED that is FIT", again.make(0, 0), 5);
    }

    /** Promise 25: SORT, TREE and DAY of the first, THICK and DRY the least, ROT the greatest, whichever has it. */
    private static void promise25OfTheFirstTheLeastAndTheGreatest() {
        for (int first = 0; first < 3; first++) {
            OakYard y = new OakYard();
            y.road(0, 0);
            y.ship(5, 0, false);
            y.need(0, 2, 82, 8, 0);
            for (int n = 0; n < 3; n++) {
                int own = (first + n) % 3;
                y.tree(0, own == 0 ? 2 : 1, 30, 8 + own, 0, own == 2 ? 9 : 0);
                y.fell(n, 2);
                y.days(1);
                if (own == 1) {
                    y.shed(n);
                }
                y.look(n);
            }
            for (int n = 0; n < 3; n++) {
                y.shed(n);
                y.days(n == 2 ? 41 - y.count(0) : 5);
            }
            int dry = Math.min(y.piece(0, 6), Math.min(y.piece(1, 6), y.piece(2, 6)));
            int rot = Math.max(y.piece(0, 7), Math.max(y.piece(1, 7), y.piece(2, 7)));
            c.is("promise 25: made", y.make(0, 0), 3);
            int[] due = {2, 2, 82, 8, 0, first == 0 ? 2 : 1, dry, rot, 0, 0, 0, -1, -1, 0, 41};
            for (int what = 0; what < due.length; what++) {
                c.is("promise 25: of the one made " + what, y.piece(3, what), due[what]);
            }
            c.is("promise 25: nothing of it by HEART", y.look(3), rot);
            y.days(39);
            int later = y.piece(3, 7);
            c.is("promise 25: by the HEART of its TREE from now on", later - y.look(3), first == 2 ? 4 : 0);
        }
    }

    /** Promise 26: a SHIP on a SLIP with all NEEDS FIT and WORK 0; false, and nothing happens, else. */
    private static void promise26Refusals() {
        rich.indices("promise 26: SHIP", 7, (y, n) -> y.launch(n));
        for (int ship = 0; ship <= 6; ship++) {
            int each = ship;
            rich.no("promise 26: ship " + ship, y -> y.launch(each));
        }
        new Refusals(c, () -> ready(2, 2, 1)).no("promise 26: WORK 1", y -> y.launch(0));
        new Refusals(c, () -> ready(2, 1, 0)).no("promise 26: one NEED not FIT", y -> y.launch(0));
        new Refusals(c, () -> ready(1, 0, 0)).no("promise 26: the only NEED not FIT", y -> y.launch(0));
        new Refusals(c, () -> ready(8, 7, 0)).no("promise 26: the 8th NEED not FIT", y -> y.launch(0));
    }

    private static OakYard ready(int needs, int fit, int work) {
        OakYard y = new OakYard();
        y.ship(5, work, false);
        for (int n = 0; n < needs; n++) {
            y.need(0, 0, 10, 10, 0);
        }
        y.lay(0);
        for (int n = 0; n < fit; n++) {
            y.shed(y.buy(0, 0, 10, 10, 0));
            y.fit(0, n, n, true);
        }
        y.days(3);
        return y;
    }

    /** Promise 26: just ready: no WORK, all NEEDS FIT (BAD or not), also without NEEDS. */
    private static void promise26JustReady() {
        for (int needs : new int[] {0, 1, 8}) {
            OakYard y = ready(needs, needs, 0);
            c.is("promise 26: launch with " + needs + " NEEDS", y.launch(0), true);
            c.is("promise 26: afloat", y.led(0, 0), 2);
            c.is("promise 26: the DAY", y.led(0, 5), 3);
            c.is("promise 26: its SLIP is free", y.count(12), 0);
            c.is("promise 26: launched twice", y.launch(0), false);
        }
        OakYard y = ready(1, 1, 2);
        y.gang(1);
        y.works(0, 0);
        y.days(1);
        c.is("promise 26: WORK 1", y.launch(0), false);
        y.days(1);
        c.is("promise 26: WORK 0", y.launch(0), true);
        c.is("promise 26: the DAY", y.led(0, 5), 5);
    }
}
