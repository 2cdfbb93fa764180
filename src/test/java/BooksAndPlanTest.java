/** Promises 43 to 50: two books of a store and its musters, choices and rows of coin. */
final class BooksAndPlanTest {
    private static final Check c = new Check();

    public static void main(String[] args) {
        entries();
        musters();
        falseMusters();
        hands();
        choices();
        paid();
        best();
        c.end();
    }

    private static void entries() {
        OakYard y = new OakYard();
        y.days(3);
        int[][] wrong = {{-1, 0, 1, 0}, {2, 0, 1, 0}, {0, -1, 1, 0}, {0, 4, 1, 0}, {0, 0, 0, 0}, {0, 0, 10001, 0},
            {0, 0, -10001, 0}, {0, 0, 1, -1}, {0, 0, 1, 10}};
        for (int[] w : wrong) {
            c.refusesNumber("a wrong entry", () -> y.enter(w[0], w[1], w[2], w[3]));
        }
        c.is("the first entry", y.enter(0, 3, 10000, 9), 1);
        c.is("the second entry, of the other book", y.enter(1, 0, -10000, 0), 2);
        for (int n = 3; n <= 100; n++) {
            c.is("a further entry", y.enter(n % 2, 0, 1, 0), n);
        }
        c.is("a 101st entry", y.enter(0, 0, 1, 0), OakYard.NONE);
        c.refusesNumber("a wrong 101st entry", () -> y.enter(0, 4, 1, 0));
    }

    private static void musters() {
        OakYard y = new OakYard();
        y.days(3);
        c.refusesNumber("muster(-1, 0)", () -> y.muster(-1, 0));
        c.refusesNumber("muster(4, 0)", () -> y.muster(4, 0));
        c.refusesNumber("muster(0, -1)", () -> y.muster(0, -1));
        c.refusesNumber("muster(0, 100001)", () -> y.muster(0, 100001));
        c.is("the first muster", y.muster(3, 100000), 1);
        for (int n = 2; n <= 20; n++) {
            c.is("a further muster", y.muster(0, 0), n);
        }
        c.is("a 21st muster", y.muster(0, 0), OakYard.NONE);
        c.refusesNumber("wrong(-1)", () -> y.wrong(-1));
        c.refusesNumber("wrong(2)", () -> y.wrong(2));
        c.refusesNumber("hand(-1)", () -> y.hand(-1));
        c.refusesNumber("hand(2)", () -> y.hand(2));
    }

    private static void falseMusters() {
        OakYard y = new OakYard();
        y.days(20);
        c.is("without musters", y.wrong(0), OakYard.NONE);
        c.is("its hand", y.hand(0), OakYard.NONE);
        y.muster(10, 7);
        y.enter(0, 10, 7, 1);
        y.enter(1, 11, 7, 1);
        c.is("it closes by entries up to that day", y.wrong(0), OakYard.NONE);
        c.is("by none of later days", y.wrong(1), 0);
        y.muster(4, 0);
        c.is("an earlier one that closes", y.wrong(1), 0);
        y.muster(4, 1);
        c.is("the first by its day", y.wrong(1), 2);
        y.muster(4, 2);
        c.is("then as it came", y.wrong(1), 2);
        c.is("the other book too", y.wrong(0), 2);
        y.enter(0, 4, 2, 3);
        c.is("now it is the one that came first", y.wrong(0), 1);
        c.is("a hand with entries from the first day on", y.hand(0), 3);
    }

    private static void hands() {
        OakYard y = new OakYard();
        y.days(20);
        y.enter(0, 0, 50, 9);
        y.enter(0, 5, -3, 4);
        y.enter(0, 5, 3, 4);
        y.enter(0, 6, 5, 2);
        y.enter(0, 10, -1, 2);
        y.enter(0, 11, 90, 8);
        y.enter(1, 6, 99, 7);
        y.muster(10, 1);
        c.is("from the first day on without an earlier one", y.hand(0), 9);
        y.muster(0, 50);
        c.is("behind the last that closes: the most units, the least hand", y.hand(0), 2);
        y.muster(5, 50);
        y.enter(0, 7, 2, 1);
        c.is("units of both signs together", y.hand(0), 2);
        y.enter(0, 8, -5, 1);
        c.is("another hand", y.hand(0), 1);
        c.is("of the other book", y.wrong(1), 1);
        c.is("which has no entries there", y.hand(1), OakYard.NONE);
        y.muster(10, 5);
        c.is("the first of that day", y.wrong(0), 0);
        OakYard same = new OakYard();
        same.enter(0, 0, 5, 3);
        same.muster(0, 5);
        same.muster(0, 6);
        c.is("two of a day", same.wrong(0), 1);
        c.is("nothing lies between them", same.hand(0), OakYard.NONE);
    }

    private static void choices() {
        OakYard y = new OakYard();
        int[][] wrong = {{-1, 0, 0, 0}, {100001, 0, 0, 0}, {0, -1, 0, 0}, {0, 10, 0, 0}, {0, 0, -1, 0}, {0, 0, 10, 0},
            {0, 0, 0, -1}, {0, 0, 0, 10}};
        for (int[] w : wrong) {
            c.refusesNumber("a wrong choice", () -> y.choice(w[0], w[1], w[2], w[3]));
        }
        c.is("the first choice", y.choice(100000, 9, 9, 9), 1);
        for (int n = 2; n <= 8; n++) {
            c.is("a further choice", y.choice(0, 0, 0, 0), n);
        }
        c.is("a 9th choice", y.choice(0, 0, 0, 0), OakYard.NONE);
        c.refusesNumber("a wrong 9th choice", () -> y.choice(0, 0, 0, 10));
        c.refusesNumber("coin(-1, 0, 0)", () -> y.coin(-1, 0, 0));
        c.refusesNumber("coin(3, 0, 0)", () -> y.coin(3, 0, 0));
        c.refusesNumber("coin(0, -1, 0)", () -> y.coin(0, -1, 0));
        c.refusesNumber("coin(0, 10, 0)", () -> y.coin(0, 10, 0));
        c.refusesNumber("coin(0, 0, -1)", () -> y.coin(0, 0, -1));
        c.refusesNumber("coin(0, 0, 100001)", () -> y.coin(0, 0, 100001));
        y.coin(2, 9, 100000);
        c.is("paid by one row alone", y.paid(1), false);
        y.coin(0, 0, 100000);
        y.coin(1, 5, 100000);
        c.is("paid by all rows", y.paid(1), true);
    }

    private static void paid() {
        OakYard y = new OakYard();
        c.is("no choices", y.paid(-1), true);
        y.choice(10, 2, 1, 0);
        y.choice(20, 4, 1, 0);
        c.is("none of them", y.paid(0), true);
        c.is("bits of others", y.paid(~3), true);
        for (int row = 0; row < 3; row++) {
            y.coin(row, 2, 10);
        }
        c.is("the first", y.paid(1), true);
        c.is("the second", y.paid(2), false);
        c.is("the first and bits of others", y.paid(-3), true);
        for (int row = 0; row < 3; row++) {
            y.coin(row, 4, 10);
        }
        c.is("the second, by what came up to it", y.paid(2), true);
        c.is("both", y.paid(3), false);
        y.coin(0, 0, 10);
        y.coin(1, 4, 20);
        y.coin(2, 5, 10);
        c.is("what comes later does not pay", y.paid(3), false);
        y.coin(2, 3, 10);
        c.is("what comes earlier does", y.paid(3), true);
    }

    private static void best() {
        OakYard y = new OakYard();
        y.choice(0, 9, 2, 9);
        c.is("ready in year 18", y.best(18), 1);
        c.is("not in year 17", y.best(17), 0);
        c.is("below 0", y.best(-1), 0);
        c.is("the last number", y.best(Integer.MAX_VALUE), 1);
        OakYard many = new OakYard();
        many.choice(30, 0, 3, 0);
        many.choice(20, 0, 2, 0);
        many.choice(10, 0, 1, 0);
        many.choice(5, 0, 0, 0);
        for (int row = 0; row < 3; row++) {
            many.coin(row, 0, 30);
        }
        c.is("the most ships, the least bits", many.best(0), 1);
        many.choice(29, 0, 3, 0);
        c.is("the least cost", many.best(0), 16);
        many.choice(0, 0, 0, 0);
        c.is("the least bits with what costs nothing", many.best(0), 16);
        many.coin(1, 0, 20);
        c.is("by the worst row", many.best(0), 2);
        many.choice(0, 3, 1, 2);
        c.is("ready by year 5", many.best(5), 66);
        c.is("not ready by year 4", many.best(4), 2);
    }
}
