/** Promises 14, 15 and 51: what may go in, why, and what another text would let. */
final class WarrantsTest {
    private static final Check c = new Check();

    public static void main(String[] args) {
        tags();
        facts();
        logic();
        days();
        refusals();
        beside();
        c.end();
    }

    /** A yard with a plank of every sort, a knee, a mast, a rope, a ship that is hired and one that is not. */
    private static OakYard yard() {
        OakYard y = new OakYard();
        y.buy(0, 0, 10, 5, 0);
        y.buy(0, 1, 20, 6, 0);
        y.buy(0, 2, 30, 7, 0);
        y.buy(1, 0, 40, 8, 3);
        y.buy(2, 2, 50, 9, 0);
        y.buy(3, 0, 60, 10, 0);
        y.ship(5, 0, true);
        y.ship(5, 0, false);
        return y;
    }

    /** Which pieces of the yard may go into a ship by a text, as a text of 0 and 1. */
    private static void lets(String text, int ship, String due) {
        OakYard y = yard();
        Check.warrant(y, text, 0);
        for (int p = 0; p < due.length(); p++) {
            c.is("may(" + p + ", " + ship + ", 0) by '" + text + "'", y.may(p, ship, 0), due.charAt(p) == '1');
        }
    }

    private static void tags() {
        lets("fit plank", 0, "111000");
        lets("fit plank;fit knee;fit mast;fit rope", 1, "111111");
        lets("", 0, "000000");
        lets("fit plank if oak", 0, "100000");
        lets("fit plank if elm", 0, "010000");
        lets("fit plank if fir", 0, "001000");
        lets("fit rope if oak or elm or fir", 0, "000000");
        lets("fit knee if oak; fit mast if oak", 0, "000100");
        lets("fit plank if hired", 0, "111000");
        lets("fit plank if hired", 1, "000000");
        lets("fit plank if not hired", 1, "111000");
        lets("fit plank if seen", 0, "000000");
        OakYard y = yard();
        Check.warrant(y, "fit plank if seen", 0);
        y.look(1);
        c.is("one that was looked at", y.may(1, 0, 0), true);
        c.is("one that was not", y.may(0, 0, 0), false);
    }

    private static void facts() {
        lets("fit plank if long > 10", 0, "011000");
        lets("fit plank if long < 20", 0, "100000");
        lets("fit plank if thick > 5 and thick < 7", 0, "010000");
        lets("fit plank if dry > 0", 0, "000000");
        lets("fit plank if dry < 1", 0, "111000");
        lets("fit plank if gangs < 1", 0, "111000");
        lets("fit plank if age < 1", 0, "111000");
        OakYard y = yard();
        y.shed(0);
        y.shed(2);
        y.gang(1);
        y.gang(1);
        y.works(0, 1);
        y.works(1, 1);
        y.days(10);
        Check.warrant(y, "fit plank if dry > 9", 10);
        Check.warrant(y, "fit plank if rot > 0", 11);
        Check.warrant(y, "fit plank if age > 9", 12);
        Check.warrant(y, "fit plank if gangs > 1", 13);
        c.is("dry", y.may(0, 0, 10), true);
        c.is("not dry", y.may(1, 0, 10), false);
        c.is("rotten, but not looked at", y.may(0, 0, 11), false);
        y.look(0);
        c.is("rotten, and looked at", y.may(0, 0, 11), true);
        c.is("age as of today, whatever the day", y.may(0, 0, 12), true);
        c.is("gangs of the ship", y.may(0, 1, 13), true);
        c.is("gangs of another ship", y.may(0, 0, 13), false);
        y.buy(0, 0, 10, 5, 0);
        c.is("age of one bought today", y.may(6, 0, 12), false);
    }

    private static void logic() {
        lets("fit plank if oak or elm and fir", 0, "100000");
        lets("fit plank if (oak or elm) and not fir", 0, "110000");
        lets("fit plank if not oak and not elm", 0, "001000");
        lets("fit plank if not (oak or elm)", 0, "001000");
        lets("fit plank if not not oak", 0, "100000");
        lets("fit plank if not oak or oak", 0, "111000");
        lets("fit plank if oak and elm or fir and hired", 0, "001000");
        lets("fit plank if hired and (oak or (elm and not (long > 50))) or (fir and seen)", 0, "110000");
        OakYard y = yard();
        Check.warrant(y, "look 5; fit plank if elm; chip 7; fit plank if elm or oak; fit plank; fit knee", 0);
        c.is("why of elm", y.why(1, 0, 0), 1);
        c.is("why of oak", y.why(0, 0, 0), 3);
        c.is("why of fir", y.why(2, 0, 0), 4);
        c.is("why of the knee", y.why(3, 0, 0), 5);
        c.is("why of the rope", y.why(5, 0, 0), OakYard.NONE);
    }

    private static void days() {
        OakYard y = yard();
        c.is("no text is none that lets", y.why(0, 0, 0), OakYard.NONE);
        Check.warrant(y, "look 1; fit plank", 10);
        Check.warrant(y, "fit plank", 5);
        c.is("ahead of any", y.why(0, 0, 4), OakYard.NONE);
        c.is("of a day below 0", y.why(0, 0, -1), OakYard.NONE);
        c.is("from day 5 on", y.why(0, 0, 5), 0);
        c.is("up to day 9", y.why(0, 0, 9), 0);
        c.is("from day 10 on", y.why(0, 0, 10), 1);
        c.is("beyond the last day", y.why(0, 0, Integer.MAX_VALUE), 1);
        Check.warrant(y, "look 1; look 1; fit plank", 10);
        c.is("of two of a day the later one", y.why(0, 0, 10), 2);
        Check.warrant(y, " ", 12);
        c.is("a text without lines lets nothing", y.why(0, 0, 12), OakYard.NONE);
        c.is("lines of today", y.count(17), 0);
        y.days(10);
        c.is("lines of today", y.count(17), 3);
        c.is("warrants", y.count(16), 4);
    }

    private static void refusals() {
        OakYard y = yard();
        c.refusesIndex("may(6, 0, 0)", () -> y.may(6, 0, 0));
        c.refusesIndex("may(-1, 0, 0)", () -> y.may(-1, 0, 0));
        c.refusesIndex("may(0, 2, 0)", () -> y.may(0, 2, 0));
        c.refusesIndex("may(0, -1, 0)", () -> y.may(0, -1, 0));
        c.refusesIndex("why(6, 0, 0)", () -> y.why(6, 0, 0));
        c.refusesIndex("why(0, 2, 0)", () -> y.why(0, 2, 0));
    }

    private static void beside() {
        OakYard y = yard();
        Check.warrant(y, "fit plank if oak; fit rope", 0);
        for (int p = 0; p < 5; p++) {
            y.shed(p);
        }
        Check.type(y, "fit plank if not oak; fit knee");
        c.is("what it would let more", y.beside(0, false), 3);
        c.is("the tape is used up", y.end(1), false);
        Check.type(y, "fit plank if not oak; fit knee");
        c.is("what it would let fewer (the rope is in the pond)", y.beside(0, true), 1);
        c.is("an empty text lets fewer", y.beside(1, true), 1);
        c.is("an empty text lets no more", y.beside(1, false), 0);
        Check.type(y, "fit plank if hired");
        c.is("it is asked of the ship", y.beside(0, false), 2);
        Check.type(y, "fit plank if hired");
        c.is("it is asked of the other ship", y.beside(1, false), 0);
        c.is("no warrant comes of it", y.count(16), 1);
        OakYard none = yard();
        none.shed(0);
        Check.type(none, "fit plank");
        c.is("without a warrant now", none.beside(0, false), 1);
        c.refusesIndex("beside(2, true)", () -> none.beside(2, true));
        c.refusesIndex("beside(-1, true)", () -> none.beside(-1, true));
    }
}
