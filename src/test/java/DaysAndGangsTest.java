/** Promises 36 to 39, and what a day does to pieces, gangs and chips (part 4 of the terms). */
final class DaysAndGangsTest {
    private static final Check c = new Check();

    public static void main(String[] args) {
        gangs();
        days();
        rotInShed();
        rotInPond();
        rotInShip();
        rotByHeart();
        ropes();
        rotted();
        work();
        chips();
        chipLines();
        gangPlan();
        c.end();
    }

    private static void gangs() {
        OakYard y = new OakYard();
        c.refusesNumber("gang(0)", () -> y.gang(0));
        c.refusesNumber("gang(41)", () -> y.gang(41));
        c.is("the first gang", y.gang(1), 0);
        c.is("the second gang", y.gang(40), 1);
        for (int n = 2; n < 8; n++) {
            y.gang(5);
        }
        c.refusesMore("a 9th gang", () -> y.gang(5));
        c.refusesNumber("a wrong 9th gang", () -> y.gang(41));
        c.is("gangs", y.count(14), 8);
        y.ship(5, 5, false);
        y.ship(5, 5, false);
        c.is("works on none, as ahead", y.works(0, OakYard.NONE), false);
        c.is("works on a ship", y.works(0, 0), true);
        c.is("works on it again", y.works(0, 0), false);
        c.is("works on another", y.works(0, 1), true);
        y.works(1, 1);
        c.is("gangs on ship 0", y.led(0, 11), 0);
        c.is("gangs on ship 1", y.led(1, 11), 2);
        c.is("works on none", y.works(0, OakYard.NONE), true);
        c.is("gangs on ship 1", y.led(1, 11), 1);
        c.refusesIndex("works(8, 0)", () -> y.works(8, 0));
        c.refusesIndex("works(-1, 0)", () -> y.works(-1, 0));
        c.refusesIndex("works(0, 2)", () -> y.works(0, 2));
        c.refusesIndex("works(0, -2)", () -> y.works(0, -2));
    }

    private static void days() {
        OakYard y = new OakYard();
        c.refusesNumber("days(-1)", () -> y.days(-1));
        c.refusesNumber("days(201)", () -> y.days(201));
        c.is("days(0)", y.days(0), 0);
        c.is("days(200)", y.days(200), 200);
        for (int n = 2; n < 20; n++) {
            y.days(200);
        }
        c.is("days(199)", y.days(199), 3999);
        c.is("as far as a day may go", y.days(200), 4000);
        c.is("no further", y.days(1), 4000);
        c.is("the day", y.count(0), 4000);
        c.is("undo is of the call that did something", y.undo(), true);
        c.is("the day", y.count(0), 3999);
    }

    private static void rotInShed() {
        OakYard y = new OakYard();
        for (int p = 0; p < 4; p++) {
            y.buy(p % 3, p % 3, 10, 10, 0);
        }
        y.shed(0);
        y.shed(1);
        y.days(9);
        c.is("rot after 9 days", y.piece(0, 7), 0);
        y.shed(2);
        y.days(1);
        c.is("rot after 10 days", y.piece(0, 7), 1);
        c.is("rot of one that came in yesterday", y.piece(2, 7), 1 + 1);
        y.days(79);
        c.is("dry", y.piece(0, 6), 89);
        c.is("rot", y.piece(0, 7), 8);
        y.days(1);
        c.is("dry enough: 90", y.piece(0, 6), 90);
        c.is("no rot when it is", y.piece(0, 7), 8);
        c.is("one that came in later", y.piece(2, 6), 81);
        c.is("has rot more", y.piece(2, 7), 1 + 9);
        y.days(200);
        c.is("no rot ever more", y.piece(1, 7), 8);
    }

    private static void rotInPond() {
        OakYard y = new OakYard();
        y.buy(0, 0, 10, 10, 0);
        y.buy(0, 1, 10, 10, 0);
        y.buy(0, 2, 10, 10, 0);
        y.days(4);
        c.is("fir after 4 days", y.piece(2, 7), 0);
        y.days(1);
        c.is("fir after 5 days", y.piece(2, 7), 1);
        y.days(195);
        c.is("fir after 200 days", y.piece(2, 7), 40);
        c.is("oak", y.piece(0, 7), 0);
        c.is("elm", y.piece(1, 7), 0);
        c.is("dry", y.piece(2, 6), 0);
        OakYard late = new OakYard();
        late.tree(0, 2, 10, 10, 0, 0);
        late.fell(0, 0);
        late.days(10);
        c.is("what comes by road today rots today", late.piece(0, 7), 1);
    }

    private static void rotInShip() {
        for (int sort = 0; sort <= 2; sort++) {
            int wants = sort == 0 ? 100 : sort == 1 ? 60 : 40;
            c.is("dry enough of sort " + sort, rotInShipAfter(sort, wants), 1);
            c.is("not dry enough of sort " + sort, rotInShipAfter(sort, wants - 1), 20);
        }
    }

    /** How much rot a piece that is so dry gains in a ship in 20 days. */
    private static int rotInShipAfter(int sort, int dry) {
        OakYard y = new OakYard();
        y.buy(0, sort, 10, 10, 0);
        y.ship(5, 0, false);
        y.need(0, 0, 5, 5, 0);
        y.lay(0);
        y.shed(0);
        y.days(dry);
        y.fit(0, 0, 0, true);
        int rot = y.piece(0, 7);
        y.days(20);
        c.is("dry as it went in", y.piece(0, 6), dry);
        return y.piece(0, 7) - rot;
    }

    private static void rotByHeart() {
        OakYard y = new OakYard();
        y.road(0, 0);
        y.road(1, 60);
        for (int heart = 0; heart <= 9; heart++) {
            y.tree(0, 0, 10, 10, 0, heart);
            y.fell(heart, heart % 3);
        }
        y.tree(1, 0, 10, 10, 0, 9);
        y.fell(10, 0);
        y.days(39);
        c.is("heart 9 after 39 days", y.piece(9, 7), 0);
        y.days(1);
        for (int heart = 0; heart <= 9; heart++) {
            c.is("heart " + heart + " after 40 days", y.piece(heart, 7), heart / 2);
            c.is("a look at it", y.look(heart), 0);
        }
        c.is("none on the road", y.piece(10, 7), 0);
        c.is("a bought one has none", y.piece(y.buy(0, 0, 10, 10, 0), 7), 0);
        y.days(40);
        c.is("but later", y.piece(10, 7), 4);
    }

    private static void ropes() {
        OakYard y = new OakYard();
        y.buy(3, 0, 10, 10, 0);
        y.buy(3, 0, 10, 10, 0);
        y.buy(3, 0, 10, 10, 0);
        y.shed(0);
        y.shed(1);
        y.ship(5, 0, false);
        y.need(0, 3, 5, 5, 0);
        y.lay(0);
        y.fit(0, 0, 0, true);
        y.days(200);
        for (int p = 0; p < 3; p++) {
            c.is("dry of a rope", y.piece(p, 6), 0);
            c.is("rot of a rope", y.piece(p, 7), 0);
        }
    }

    private static void rotted() {
        OakYard y = new OakYard();
        y.buy(0, 2, 10, 10, 0);
        y.buy(0, 2, 10, 10, 0);
        y.ship(5, 0, false);
        y.need(0, 0, 5, 5, 0);
        y.lay(0);
        y.shed(1);
        y.fit(0, 0, 1, true);
        y.days(200);
        c.is("in a ship rot is 100 at most", y.piece(1, 7), 100);
        c.is("it stays in the ship", y.piece(1, 1), 3);
        y.days(200);
        y.days(99);
        c.is("in the pond", y.piece(0, 1), 1);
        c.is("with a rot of", y.piece(0, 7), 99);
        y.days(1);
        c.is("rotted", y.piece(0, 1), 6);
        c.is("count of rotted", y.count(10), 1);
        c.is("shed of a rotted one", y.shed(0), false);
        c.is("look at one of 100 in a ship", y.look(1), 100);
        y.days(40);
        c.is("100 still", y.look(1), 100);
        y.out(0, 0);
        c.is("out of the ship it is in the pond", y.piece(1, 1), 1);
        y.days(1);
        c.is("with the day it is rotted", y.piece(1, 1), 6);
    }

    private static void work() {
        OakYard y = new OakYard();
        y.ship(5, 10, false);
        y.ship(5, 10, false);
        y.gang(3);
        y.gang(4);
        y.works(0, 0);
        y.works(1, 0);
        y.days(1);
        c.is("on paper no work is done", y.led(0, 1), 10);
        y.lay(0);
        y.lay(1);
        y.days(1);
        c.is("on a slip it is", y.led(0, 1), 3);
        c.is("not on a ship without gangs", y.led(1, 1), 10);
        y.works(1, 1);
        y.days(2);
        c.is("0 at least", y.led(0, 1), 0);
        c.is("by the other", y.led(1, 1), 2);
    }

    private static void chips() {
        OakYard y = new OakYard();
        for (int p = 0; p < 6; p++) {
            y.buy(p == 1 ? 2 : 0, 0, 10, 10, 0);
            if (p != 2) {
                y.shed(p);
            }
        }
        y.ship(5, 5000, false);
        y.gang(1);
        y.gang(1);
        y.works(0, 0);
        y.works(1, 0);
        y.days(1);
        c.is("no chips without a text", y.count(15), 0);
        Check.warrant(y, "chip 30; chip 20", 1);
        y.days(1);
        c.is("no chips on paper", y.count(15), 0);
        y.lay(0);
        y.days(1);
        c.is("two gangs and two lines", y.count(15), 100);
        c.is("the first plank is carried home", y.piece(0, 1), 4);
        y.days(1);
        c.is("not the mast, nor the plank in the pond", y.piece(3, 1), 4);
        Check.warrant(y, "chip 99", 4);
        y.works(1, OakYard.NONE);
        y.days(1);
        c.is("not yet 100 more", y.count(8), 2);
        y.days(1);
        c.is("now", y.piece(4, 1), 4);
        Check.warrant(y, "chip 1000", 6);
        y.buy(0, 0, 10, 10, 0);
        y.shed(6);
        y.buy(0, 0, 10, 10, 0);
        y.shed(7);
        y.days(1);
        c.is("each time that 100 more come", y.count(8), 6);
        c.is("mast and wet plank stay", y.count(6) + y.count(5), 2);
        y.days(1);
        c.is("chips in all", y.count(15), 2398);
    }

    private static void chipLines() {
        chipsOf("chip 7", 0, 7);
        chipsOf("chip 7 if hired; chip 1 if not hired", 0, 7);
        chipsOf("chip 7 if hired; chip 1 if not hired", 1, 1);
        chipsOf("chip 7 if gangs > 0; chip 1 if gangs > 1", 0, 7);
        chipsOf("chip 1 if oak or elm or fir or seen or dry > 0 or rot > 0 or thick > 0 or long > 0 or age > 0", 0, 0);
        chipsOf("owe 9; look 9; fit plank", 0, 0);
        OakYard y = new OakYard();
        Check.warrant(y, "chip 1", 0);
        y.ship(5, 0, false);
        y.gang(1);
        y.works(0, 0);
        y.lay(0);
        y.days(1);
        c.is("on a slip", y.count(15), 1);
        y.launch(0);
        y.days(1);
        c.is("afloat", y.count(15), 2);
        y.dock(10);
        y.moor(0, 0, true);
        y.days(1);
        c.is("in a dock", y.count(15), 3);
        y.moor(0, 0, false);
        y.sail(0, true);
        y.days(1);
        c.is("not at sea", y.count(15), 3);
        y.sail(0, false);
        y.breaks(0);
        y.days(1);
        c.is("not on one that is broken up", y.count(15), 3);
    }

    private static void chipsOf(String text, int ship, int due) {
        OakYard y = new OakYard();
        Check.warrant(y, text, 0);
        y.ship(5, 5, true);
        y.ship(5, 5, false);
        y.lay(0);
        y.lay(1);
        y.gang(1);
        y.works(0, ship);
        y.days(3);
        c.is("chips of 3 days by '" + text + "'", y.count(15), 3 * due);
    }

    private static void gangPlan() {
        OakYard y = new OakYard();
        y.slips(8);
        y.gang(5);
        c.is("without a ship", y.gangs(), 0);
        y.ship(5, 11, false);
        c.is("a ship on paper", y.gangs(), 0);
        y.lay(0);
        c.is("one gang for 11", y.gangs(), 3);
        y.ship(5, 20, false);
        y.need(1, 0, 5, 5, 0);
        y.lay(1);
        c.is("one gang for two ships", y.gangs(), OakYard.NONE);
        y.gang(7);
        c.is("the stronger one for the greater (fit or not)", y.gangs(), 3);
        y.gang(1);
        y.gang(2);
        c.is("all of them", y.gangs(), 3);
        y.ship(5, 0, false);
        y.lay(2);
        c.is("a ship without work is none", y.gangs(), 3);
        y.ship(5, 4, false);
        y.lay(3);
        y.ship(5, 1, false);
        y.lay(4);
        c.is("four ships", y.gangs(), 3);
        y.ship(5, 5000, false);
        y.lay(5);
        c.is("a fifth ship is not asked", y.gangs(), 3);
        OakYard four = new OakYard();
        four.slips(8);
        for (int n = 0; n < 5; n++) {
            four.ship(5, n == 3 ? 50 : 1, false);
            four.lay(n);
            four.gang(5);
        }
        c.is("the fourth ship is asked", four.gangs(), 5);
        OakYard seven = new OakYard();
        seven.ship(5, 12, false);
        seven.lay(0);
        for (int g = 0; g < 6; g++) {
            seven.gang(1);
        }
        seven.gang(40);
        c.is("a seventh gang is not asked", seven.gangs(), 2);
        OakYard none = new OakYard();
        none.ship(5, 12, false);
        none.lay(0);
        c.is("without gangs", none.gangs(), OakYard.NONE);
    }
}
