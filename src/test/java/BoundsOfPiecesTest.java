import java.util.NoSuchElementException;

/** Promises 1 and 4 to 11 at their bounds: each sentence that names one, just inside, just outside, and refused. */
final class BoundsOfPiecesTest {
    private static final Check c = new Check();
    private static final Refusals rich = new Refusals(c, Yards::rich);
    private static final Refusals full = new Refusals(c, Yards::full);

    public static void main(String[] args) {
        promise1NothingIsThere();
        promise1WhatIsToldAtFirst();
        promise4Roads();
        promise4AsRoadTellsThen();
        promise5Numbers();
        promise5TreesAreAtMost60();
        promise6TreesAndKinds();
        promise6FelledOrFull();
        promise6FiveLongAtLeast();
        promise6OnTheRoad();
        promise7Numbers();
        promise7BendAndSortOfKinds();
        promise7PiecesAreAtMost120();
        promise8Numbers();
        promise8WhatIsInItStays();
        promise9NotInThePond();
        promise9NoRoom();
        promise10Tellings();
        promise10NoneWhereThereIsNone();
        promise11Places();
        promise11LookLines();
        promise11LessTheHeart();
        c.end();
    }

    /** Promise 1: a new object, empty: all counts are 0, and nothing is there to be asked. */
    private static void promise1NothingIsThere() {
        OakYard y = new OakYard();
        for (int what = 0; what <= 18; what++) {
            c.is("promise 1: count(" + what + ")", y.count(what), 0);
        }
        c.is("promise 1: fault()", y.fault(), OakYard.NONE);
        Refusals none = new Refusals(c, OakYard::new);
        none.index("promise 1: no tree", x -> x.fell(0, 0));
        none.index("promise 1: no piece to shed", x -> x.shed(0));
        none.index("promise 1: no piece", x -> x.piece(0, 0));
        none.index("promise 1: no piece to look at", x -> x.look(0));
        none.index("promise 1: no piece of a tree", x -> x.ofTree(0, false));
        none.index("promise 1: no piece with fellows", x -> x.fellows(0));
        none.index("promise 1: no ship", x -> x.led(0, 0));
        none.index("promise 1: no ship to lay", x -> x.lay(0));
        none.index("promise 1: no dock", x -> x.docks(0, 0, 1));
        none.index("promise 1: no gang", x -> x.works(0, OakYard.NONE));
        none.no("promise 1: nothing to be undone", OakYard::undo);
        none.no("promise 1: no image", OakYard::back);
        none.none("promise 1: no muster of book 0", x -> x.wrong(0));
        none.none("promise 1: no hand of book 1", x -> x.hand(1));
        none.answers("promise 1: no ship floats", 0, OakYard::war);
        none.answers("promise 1: no plan of gangs", 0, OakYard::gangs);
        none.answers("promise 1: no choice", 0, x -> x.best(9));
    }

    /** Promise 1: what the terms tell 'at first': ROAD 10, a shed of 20, 2 SLIPS, TIDE 0, coin 0. */
    private static void promise1WhatIsToldAtFirst() {
        for (int wood = 0; wood <= 5; wood++) {
            OakYard y = new OakYard();
            y.tree(wood, 0, 10, 10, 0, 0);
            y.fell(0, 0);
            y.days(9);
            c.is("promise 1: ROAD of 10, day 9", y.piece(0, 1), 0);
            y.days(1);
            c.is("promise 1: ROAD of 10, day 10", y.piece(0, 1), 1);
        }
        OakYard y = new OakYard();
        for (int p = 0; p <= 20; p++) {
            y.buy(0, 0, 10, 10, 0);
            c.is("promise 1: a shed of 20, piece " + p, y.shed(p), p < 20);
        }
        for (int x = 0; x <= 2; x++) {
            y.ship(1 + x / 2, 0, false);
            c.is("promise 1: 2 SLIPS, ship " + x, y.lay(x), x < 2);
        }
        y.dock(1);
        c.is("promise 1: TIDE 0, a ship of 1 over a sill of 1", y.lastTide(0, 0, 27), 27);
        c.is("promise 1: TIDE 0, a ship of 2 over a sill of 1", y.lastTide(2, 0, 27), OakYard.NONE);
        y.choice(1, 9, 1, 0);
        c.is("promise 1: coin 0", y.paid(1), false);
    }

    /** Promise 4: WOODS 0 to 5, ROAD 0 to 60; of a wrong WOOD and ROAD the WOOD is told first. */
    private static void promise4Roads() {
        rich.indices("promise 4: WOOD", 6, (y, n) -> y.road(n, 5));
        rich.numbers("promise 4: ROAD", 0, 60, (y, n) -> y.road(5, n));
        rich.index("promise 4: a wrong WOOD and a wrong ROAD", y -> y.road(6, 61));
    }

    /** Promise 4: of that WOOD alone, for what is felled from then on. */
    private static void promise4AsRoadTellsThen() {
        OakYard y = new OakYard();
        for (int n = 0; n < 3; n++) {
            y.tree(n / 2, 0, 10, 10, 0, 0);
        }
        y.road(0, 60);
        y.fell(0, 0);
        y.road(0, 0);
        y.fell(1, 0);
        y.fell(2, 0);
        c.is("promise 4: ROAD 0, in the pond at once", y.piece(1, 1), 1);
        c.is("promise 4: ROAD of another WOOD", y.piece(2, 1), 0);
        y.days(59);
        c.is("promise 4: ROAD 60 as it was then, day 59", y.piece(0, 1), 0);
        y.days(1);
        c.is("promise 4: ROAD 60 as it was then, day 60", y.piece(0, 1), 1);
    }

    /** Promise 5: SORT 0 to 2, LONG 5 to 100, THICK 5 to 60, BEND - 9 to 9, HEART 0 to 9; of several the WOOD first. */
    private static void promise5Numbers() {
        rich.indices("promise 5: WOOD", 6, (y, n) -> y.tree(n, 0, 50, 20, 0, 0));
        rich.numbers("promise 5: SORT", 0, 2, (y, n) -> y.tree(0, n, 50, 20, 0, 0));
        rich.numbers("promise 5: LONG", 5, 100, (y, n) -> y.tree(0, 0, n, 20, 0, 0));
        rich.numbers("promise 5: THICK", 5, 60, (y, n) -> y.tree(0, 0, 50, n, 0, 0));
        rich.numbers("promise 5: BEND", -9, 9, (y, n) -> y.tree(0, 0, 50, 20, n, 0));
        rich.numbers("promise 5: HEART", 0, 9, (y, n) -> y.tree(0, 0, 50, 20, 0, n));
        rich.index("promise 5: a wrong WOOD and a wrong HEART", y -> y.tree(6, 0, 50, 20, 0, 10));
        OakYard y = new OakYard();
        y.road(5, 0);
        c.is("promise 5: the least numbers", y.tree(0, 0, 5, 5, -9, 0), 0);
        c.is("promise 5: the greatest numbers", y.tree(5, 2, 100, 60, 9, 9), 1);
        int knee = y.fell(1, 1);
        int[] due = {1, 1, 100, 60, 9, 2};
        for (int what = 0; what < due.length; what++) {
            c.is("promise 5: of the greatest tree " + what, y.piece(knee, what), due[what]);
        }
    }

    /** Promise 5: TREES are at most 60; a wrong number is told ahead of that. */
    private static void promise5TreesAreAtMost60() {
        OakYard y = new OakYard();
        for (int n = 0; n < 60; n++) {
            c.is("promise 5: tree " + n, y.tree(n % 6, 0, 10, 10, 0, 0), n);
        }
        c.is("promise 5: 60 trees", y.count(1), 60);
        c.is("promise 5: the 60th is felled", y.fell(59, 0), 0);
        full.more("promise 5: a 61st tree", x -> x.tree(0, 0, 50, 20, 0, 0));
        full.number("promise 5: a wrong 61st tree", x -> x.tree(0, 0, 50, 20, 0, 10));
        full.index("promise 5: a 61st tree of no WOOD", x -> x.tree(-1, 0, 50, 20, 0, 0));
    }

    /** Promise 6: no such TREE is told ahead of the kind, which is 0 to 2. */
    private static void promise6TreesAndKinds() {
        rich.indices("promise 6: TREE", 4, (y, n) -> y.fell(n, 0));
        rich.numbers("promise 6: kind", 0, 2, (y, n) -> y.fell(3, n));
        rich.index("promise 6: no TREE and no kind", y -> y.fell(4, 3));
        rich.number("promise 6: no kind of a FELLED TREE", y -> y.fell(0, 3));
        full.number("promise 6: no kind with 120 PIECES", y -> y.fell(0, -1));
    }

    /** Promise 6: NONE, and nothing happens, if it is FELLED, or there are 120. */
    private static void promise6FelledOrFull() {
        rich.none("promise 6: FELLED as this kind", y -> y.fell(0, 0));
        rich.none("promise 6: FELLED as another kind", y -> y.fell(1, 1));
        full.none("promise 6: with 120 PIECES", y -> y.fell(0, 0));
        OakYard y = new OakYard();
        y.tree(0, 0, 10, 10, 0, 0);
        y.tree(0, 0, 10, 10, 0, 0);
        for (int n = 0; n < 119; n++) {
            y.buy(0, 0, 10, 10, 0);
        }
        c.is("promise 6: the 120th PIECE", y.fell(1, 0), 119);
        c.is("promise 6: a 121st PIECE", y.fell(0, 0), OakYard.NONE);
        c.is("promise 6: its TREE stands", y.count(2), 1);
    }

    /** Promise 6: PLANK and MAST are as LONG as the TREE less its BEND without sign, 5 at least; a KNEE is as LONG. */
    private static void promise6FiveLongAtLeast() {
        for (int length = 12; length <= 16; length++) {
            for (int bend = -9; bend <= 9; bend += 18) {
                int due = Math.max(5, length - 9);
                c.is("promise 6: a PLANK of " + length + " bent by " + bend, felled(length, bend, 0), due);
                c.is("promise 6: a KNEE of " + length + " bent by " + bend, felled(length, bend, 1), length);
                c.is("promise 6: a MAST of " + length + " bent by " + bend, felled(length, bend, 2), due);
            }
        }
        c.is("promise 6: a PLANK of 5 bent by 1", felled(5, 1, 0), 5);
        c.is("promise 6: a KNEE of 5 bent by 9", felled(5, 9, 1), 5);
        c.is("promise 6: a straight MAST of 100", felled(100, 0, 2), 100);
    }

    private static int felled(int length, int bend, int kind) {
        OakYard y = new OakYard();
        y.tree(0, 0, length, 10, bend, 0);
        y.fell(0, kind);
        c.is("promise 6: BEND of kind " + kind, y.piece(0, 4), kind == 1 ? bend : 0);
        c.is("promise 6: THICK of kind " + kind, y.piece(0, 3), 10);
        return y.piece(0, 2);
    }

    /** Promise 6: on the road for so many days as ROAD tells (0: in the pond at once), counted from the DAY of felling. */
    private static void promise6OnTheRoad() {
        for (int days = 0; days <= 3; days++) {
            OakYard y = new OakYard();
            y.days(7);
            y.road(2, days);
            y.tree(2, 0, 10, 10, 0, 0);
            y.fell(0, 0);
            for (int day = 0; day <= 4; day++) {
                c.is("promise 6: ROAD " + days + " after " + day, y.piece(0, 1), day < days ? 0 : 1);
                y.days(1);
            }
            c.is("promise 6: the DAY it was felled", y.piece(0, 10), 7);
        }
    }

    /** Promise 7: kind 0 to 3, SORT 0 to 2, LONG 5 to 100, THICK 1 to 60, BEND of a KNEE - 9 to 9. */
    private static void promise7Numbers() {
        rich.numbers("promise 7: kind", 0, 3, (y, n) -> y.buy(n, 0, 10, 10, 0));
        rich.numbers("promise 7: SORT", 0, 2, (y, n) -> y.buy(0, n, 10, 10, 0));
        rich.numbers("promise 7: LONG", 5, 100, (y, n) -> y.buy(0, 0, n, 10, 0));
        rich.numbers("promise 7: THICK", 1, 60, (y, n) -> y.buy(0, 0, 10, n, 0));
        rich.numbers("promise 7: BEND of a KNEE", -9, 9, (y, n) -> y.buy(1, 0, 10, 10, n));
        OakYard y = new OakYard();
        c.is("promise 7: the least numbers", y.buy(1, 0, 5, 1, -9), 0);
        c.is("promise 7: the greatest numbers", y.buy(1, 2, 100, 60, 9), 1);
        int[][] due = {{1, 1, 5, 1, -9, 0}, {1, 1, 100, 60, 9, 2}};
        for (int what = 0; what < 6; what++) {
            c.is("promise 7: of the least piece " + what, y.piece(0, what), due[0][what]);
            c.is("promise 7: of the greatest piece " + what, y.piece(1, what), due[1][what]);
        }
    }

    /** Promise 7: BEND 0 but of a KNEE, SORT 0 of a ROPE. */
    private static void promise7BendAndSortOfKinds() {
        for (int kind : new int[] {0, 2, 3}) {
            rich.numbers("promise 7: BEND of kind " + kind, 0, 0, (y, n) -> y.buy(kind, 0, 10, 10, n));
        }
        rich.numbers("promise 7: SORT of a ROPE", 0, 0, (y, n) -> y.buy(3, n, 10, 10, 0));
    }

    /** Promise 7: PIECES are at most 120; a wrong number is told ahead of that. */
    private static void promise7PiecesAreAtMost120() {
        OakYard y = new OakYard();
        for (int n = 0; n < 120; n++) {
            c.is("promise 7: piece " + n, y.buy(n % 4, 0, 5 + n % 90, 10, 0), n);
        }
        c.is("promise 7: 120 pieces", y.count(3), 120);
        c.is("promise 7: LONG of the 120th", y.piece(119, 2), 34);
        c.is("promise 7: the 120th goes into the shed", y.shed(119), true);
        full.more("promise 7: a 121st PIECE", x -> x.buy(0, 0, 10, 10, 0));
        full.number("promise 7: a wrong 121st PIECE", x -> x.buy(0, 0, 101, 10, 0));
    }

    /** Promise 8: a shed of 1 to 120 PIECES. */
    private static void promise8Numbers() {
        rich.numbers("promise 8: room", 1, 120, OakYard::sheds);
        for (int room : new int[] {1, 2, 119, 120}) {
            OakYard y = new OakYard();
            y.sheds(room);
            for (int n = 0; n < 120; n++) {
                y.buy(0, 0, 10, 10, 0);
                c.is("promise 8: piece " + n + " in a shed of " + room, y.shed(n), n < room);
            }
        }
    }

    /** Promise 8: what is in it stays, and no more come in until it has fewer. */
    private static void promise8WhatIsInItStays() {
        OakYard y = new OakYard();
        y.ship(5, 0, false);
        for (int p = 0; p < 4; p++) {
            y.buy(0, 0, 10, 10, 0);
            y.need(0, 0, 5, 5, 0);
            y.shed(p);
        }
        y.lay(0);
        y.buy(0, 0, 10, 10, 0);
        y.sheds(2);
        c.is("promise 8: the 4 stay in a shed of 2", y.count(6), 4);
        c.is("promise 8: 4 of 2", y.shed(4), false);
        y.fit(0, 0, 0, true);
        y.fit(0, 1, 1, true);
        c.is("promise 8: 2 of 2", y.shed(4), false);
        y.fit(0, 2, 2, true);
        c.is("promise 8: 1 of 2", y.shed(4), true);
    }

    /** Promise 9: false, and nothing happens, for a PIECE in any place but the pond. */
    private static void promise9NotInThePond() {
        rich.indices("promise 9: PIECE", 15, (y, n) -> y.shed(n));
        rich.no("promise 9: on the road", y -> y.shed(13));
        rich.no("promise 9: in the shed", y -> y.shed(2));
        rich.no("promise 9: in a ship", y -> y.shed(11));
        rich.no("promise 9: carried home", y -> y.shed(0));
        rich.no("promise 9: used up", y -> y.shed(4));
        rich.no("promise 9: rotted", y -> y.shed(1));
        OakYard y = Yards.rich();
        c.is("promise 9: in the pond", y.shed(3), true);
        c.is("promise 9: now in the shed", y.piece(3, 1), 2);
        c.is("promise 9: the DAY it went in", y.piece(3, 14), 116);
    }

    /** Promise 9: as long as fewer are in it than it may have. */
    private static void promise9NoRoom() {
        new Refusals(c, () -> withRoom(5)).no("promise 9: 5 in a shed of 5", y -> y.shed(3));
        c.is("promise 9: 5 in a shed of 6", withRoom(6).shed(3), true);
        new Refusals(c, () -> withRoom(4)).no("promise 9: 5 in a shed of 4", y -> y.shed(3));
        new Refusals(c, () -> shedding(120, 119)).no("promise 9: 119 of 119", y -> y.shed(119));
        c.is("promise 9: 119 of 120", shedding(119, 120).shed(119), true);
    }

    private static OakYard withRoom(int room) {
        OakYard y = Yards.rich();
        y.sheds(room);
        return y;
    }

    /** 120 pieces, of which so many are shedded as far as there is room. */
    private static OakYard shedding(int pieces, int room) {
        OakYard y = new OakYard();
        y.sheds(room);
        for (int p = 0; p < 120; p++) {
            y.buy(0, 0, 10, 10, 0);
        }
        for (int p = 0; p < pieces; p++) {
            y.shed(p);
        }
        return y;
    }

    /** Promise 10: no such PIECE is told ahead of no such what, which is 0 to 14. */
    private static void promise10Tellings() {
        rich.indices("promise 10: PIECE", 15, (y, n) -> y.piece(n, 0));
        for (int what : new int[] {-1, 15, Integer.MIN_VALUE, Integer.MAX_VALUE}) {
            rich.refuses("promise 10: what " + what, NoSuchElementException.class, y -> y.piece(0, what));
            rich.index("promise 10: no PIECE and what " + what, y -> y.piece(15, what));
        }
        for (int what = 0; what <= 14; what++) {
            int each = what;
            rich.leaves("promise 10: what " + what, y -> y.piece(7, each));
        }
    }

    /** Promise 10: NONE without a TREE, a SHIP, a NEED, a DAY in the shed; 0 where it is not BAD and shows nothing. */
    private static void promise10NoneWhereThereIsNone() {
        OakYard y = Yards.rich();
        int[][] due = {{3, 0, -1, 0, -1, -1, 0, -1}, {2, 1, 0, 0, -1, -1, 0, 103}, {7, 0, -1, 102, 1, 1, 1, 102},
            {11, 0, -1, 102, 0, 0, 1, 102}, {13, 0, 1, 113, -1, -1, 0, -1}, {14, 0, -1, 116, 1, 3, 0, 116}};
        for (int[] of : due) {
            for (int what = 8; what <= 14; what++) {
                c.is("promise 10: of " + of[0] + " what " + what, y.piece(of[0], what), of[what - 7]);
            }
        }
    }

    /** Promise 11: NONE, and nothing happens, if it is not in pond, shed or ship. */
    private static void promise11Places() {
        rich.indices("promise 11: PIECE", 15, (y, n) -> y.look(n));
        rich.none("promise 11: on the road", y -> y.look(13));
        rich.none("promise 11: carried home", y -> y.look(0));
        rich.none("promise 11: used up", y -> y.look(5));
        rich.none("promise 11: rotted", y -> y.look(1));
        OakYard y = Yards.rich();
        c.is("promise 11: in the pond", y.look(3), 23);
        c.is("promise 11: in the shed", y.look(6), 1);
        c.is("promise 11: in a ship", y.look(7), 14);
        c.is("promise 11: a rope", y.look(8), 0);
    }

    /** Promise 11: not more than the number of the last look LINE of that DAY (0 to 100), 100 without. */
    private static void promise11LookLines() {
        int[][] limits = {{0, 0}, {1, 1}, {22, 22}, {23, 23}, {24, 23}, {100, 23}};
        for (int[] limit : limits) {
            OakYard y = Yards.rich();
            y.end(0);
            Check.warrant(y, "look 0; look " + limit[0] + "; chip 1", 116);
            c.is("promise 11: ROT 23 by look " + limit[0], y.look(3), limit[1]);
            c.is("promise 11: it SHOWS that", y.piece(3, 8), limit[1]);
        }
        OakYard y = new OakYard();
        y.buy(0, 2, 10, 10, 0);
        y.ship(5, 0, false);
        y.need(0, 0, 5, 5, 0);
        y.lay(0);
        y.shed(0);
        y.fit(0, 0, 0, true);
        y.days(100);
        c.is("promise 11: 100 without a text", y.look(0), 100);
        Check.warrant(y, "look 99", 100);
        c.is("promise 11: 99 by a look LINE", y.look(0), 99);
        Check.warrant(y, "fit plank", 100);
        c.is("promise 11: 100 without a look LINE", y.look(0), 100);
        Check.warrant(y, "look 5", 101);
        c.is("promise 11: not by that of tomorrow", y.look(0), 100);
        y.days(1);
        c.is("promise 11: SHOWS what the last look told", y.piece(0, 8), 100);
        c.is("promise 11: by that of today", y.look(0), 5);
    }

    /** Promise 11: ROT less all by which the HEART made it more; SHOWS is 0 without a look. */
    private static void promise11LessTheHeart() {
        OakYard y = new OakYard();
        y.road(0, 0);
        for (int heart = 0; heart <= 9; heart++) {
            y.tree(0, 2, 10, 10, 0, heart);
            y.fell(heart, 0);
        }
        y.days(80);
        for (int heart = 0; heart <= 9; heart++) {
            c.is("promise 11: ROT in truth of HEART " + heart, y.piece(heart, 7), 16 + heart / 2 * 2);
            c.is("promise 11: SHOWS without a look, HEART " + heart, y.piece(heart, 8), 0);
            c.is("promise 11: a look, HEART " + heart, y.look(heart), 16);
            c.is("promise 11: SHOWS, HEART " + heart, y.piece(heart, 8), 16);
        }
    }
}
