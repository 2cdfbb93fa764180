/** Yards to ask and to refuse of: one in which there is some of all, and one in which nothing more has room. */
final class Yards {
    private Yards() {
    }

    /**
     * Day 116. Pieces: 0 carried home, 1 rotted, 2 in the shed (of tree 0, looked at), 3 a mast in the pond, 4 and 5 used
     * up for 6 in the shed, 7 a bad knee in ship 1, 8 a rope, 9 and 10 planks in the shed, 11 bad in ship 0, 12 and 14 in
     * ship 1, 13 on the road. Ships: 0 afloat, hired and open, 1 on the slip with gangs 0 and 1, needs 2 and 4 not fit,
     * 2 on paper, 3 in dock 0, 4 at sea and hired, 5 broken up, 6 afloat. Trees 2 and 3 stand.
     */
    static OakYard rich() {
        OakYard y = new OakYard();
        build(y);
        y.keep();
        y.days(2);
        y.road(1, 60);
        y.fell(1, 2);
        y.days(3);
        y.shed(y.buy(0, 0, 14, 10, 0));
        y.fit(1, 3, 14, true);
        y.look(2);
        Check.type(y, "look 1 x");
        try {
            y.warrant(4000);
        } catch (IllegalArgumentException e) {
            // so that there is a fault
        }
        Check.type(y, "look 7; fit plank if dry > 5");
        return y;
    }

    /** The rich yard up to day 111, where its image is kept; the yard is a new one, or as new. */
    static void build(OakYard y) {
        tellWoodsAndTexts(y);
        sendOutAndOpen(y);
        buildOn(y);
        floatMore(y);
        tellBooks(y);
    }

    private static void tellWoodsAndTexts(OakYard y) {
        y.road(0, 0);
        y.tree(0, 0, 50, 20, 3, 9);
        y.tree(1, 2, 30, 10, -9, 4);
        y.tree(2, 1, 60, 12, 0, 1);
        y.tree(0, 2, 44, 15, 0, 7);
        Check.warrant(y, "fit plank if oak; fit knee if elm and dry > 0; chip 4; owe 9; look 50", 0);
        Check.warrant(y, "fit plank; fit mast if not seen; look 3; chip 90", 121);
        y.slips(3);
        y.sheds(12);
    }

    /** Ship 0 opens on day 81; piece 1 is rotted on day 102. */
    private static void sendOutAndOpen(OakYard y) {
        y.ship(5, 0, true);
        y.need(0, 0, 10, 10, 0);
        y.lay(0);
        y.ship(9, 30, false);
        y.need(1, 0, 10, 10, 0);
        y.need(1, 1, 15, 10, 3);
        y.need(1, 0, 20, 10, 0);
        y.need(1, 0, 12, 10, 0);
        y.need(1, 2, 30, 5, 0);
        y.lay(1);
        y.buy(0, 0, 40, 10, 0);
        y.buy(0, 0, 30, 10, 0);
        y.fell(0, 0);
        y.buy(2, 2, 40, 10, 0);
        y.buy(2, 0, 25, 12, 0);
        y.buy(2, 0, 30, 9, 0);
        y.shed(1);
        y.fit(0, 0, 1, true);
        y.launch(0);
        y.sail(0, true);
        y.days(101);
        y.dock(10);
        y.moor(0, 0, true);
        y.out(0, 0);
        y.days(1);
    }

    /** Ship 1 on the slip, two gangs on it, and a mast made. */
    private static void buildOn(OakYard y) {
        y.make(1, 4);
        y.buy(1, 1, 20, 10, 4);
        y.buy(3, 0, 20, 3, 0);
        y.buy(0, 1, 25, 11, 0);
        y.buy(0, 0, 33, 12, 0);
        y.buy(0, 2, 15, 10, 0);
        y.buy(0, 0, 22, 10, 0);
        for (int p = 7; p <= 12; p++) {
            y.shed(p);
        }
        y.shed(0);
        y.fit(0, 0, 11, true);
        y.moor(0, 0, false);
        y.fit(1, 0, 12, false);
        y.fit(1, 1, 7, true);
        y.gang(3);
        y.gang(2);
        y.gang(7);
        y.works(0, 1);
        y.works(1, 1);
        y.days(1);
        y.shed(2);
    }

    private static void floatMore(OakYard y) {
        for (int n = 2; n <= 6; n++) {
            y.ship(3 * n, n == 2 ? 7 : 0, n == 4);
            if (n > 2) {
                y.lay(n);
                y.launch(n);
            }
        }
        y.need(2, 3, 10, 2, 0);
        y.need(2, 0, 10, 2, 0);
        y.moor(3, 0, true);
        y.dock(2);
        y.tide(4, 20);
        y.tide(17, 30);
        y.sail(4, true);
        y.breaks(5);
        y.days(8);
    }

    private static void tellBooks(OakYard y) {
        y.enter(0, 5, 20, 3);
        y.enter(1, 6, -7, 2);
        y.enter(0, 40, -6, 1);
        y.muster(10, 20);
        y.muster(50, 13);
        y.choice(50, 0, 3, 2);
        y.choice(60, 1, 4, 1);
        y.choice(10, 2, 1, 0);
        for (int row = 0; row < 3; row++) {
            y.coin(row, 0, 60 + row);
            y.coin(row, 1, 50);
        }
    }

    /** 60 trees, 120 pieces, 8 ships, 8 needs of ship 0, 4 docks, 8 gangs, 10 texts, full books, 8 choices, a full tape. */
    static OakYard full() {
        OakYard y = new OakYard();
        for (int n = 0; n < 60; n++) {
            y.tree(n % 6, n % 3, 5 + n, 5 + n % 20, n % 10, n % 10);
        }
        for (int n = 0; n < 120; n++) {
            y.buy(n % 4, 0, 10 + n % 7, 10, 0);
        }
        for (int n = 0; n < 8; n++) {
            y.ship(5 + n, n, false);
            y.need(0, n % 4, 10, 5, 0);
            y.gang(1 + n);
            y.choice(n, n, n, n);
        }
        for (int n = 0; n < 4; n++) {
            y.dock(n);
        }
        for (int n = 0; n < 10; n++) {
            Check.warrant(y, n % 2 == 0 ? "fit plank" : "fit plank; fit mast", 10 * n);
        }
        for (int n = 0; n < 100; n++) {
            y.enter(n % 2, 0, 1 + n, n % 10);
        }
        for (int n = 0; n < 20; n++) {
            y.muster(0, n);
        }
        Check.type(y, "look 7;" + " ".repeat(387) + "look 8");
        return y;
    }
}
