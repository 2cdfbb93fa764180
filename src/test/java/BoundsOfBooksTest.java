/** Promises 43 to 50 at their bounds: entries, musters, the false one and its hand, choices, coin, and the best set. */
final class BoundsOfBooksTest {
    private static final Check c = new Check();
    private static final Refusals rich = new Refusals(c, Yards::rich);
    private static final Refusals full = new Refusals(c, Yards::full);

    public static void main(String[] args) {
        promise43Numbers();
        promise43EntriesAreAtMost100();
        promise44Numbers();
        promise44MustersAreAtMost20();
        promise45Books();
        promise45UpToTheEndOfThatDay();
        promise45TheFirstByDayThenAsItCame();
        promise46BehindTheLastAndUpToIt();
        promise46TheMostUnits();
        promise46None();
        promise47Numbers();
        promise47ChoicesAreAtMost8();
        promise48Numbers();
        promise49BitsOfOthers();
        promise49NotLessThanItsCosts();
        promise49ByAllRows();
        promise50ReadyByTheYear();
        promise50AnyYear();
        promise50OfSeveral();
        promise50TheGreatestNumbers();
        c.end();
    }

    /** Promise 43: BOOK 0 or 1, DAY 0 to TODAY, n - 10000 to 10000 but 0, HAND 0 to 9. */
    private static void promise43Numbers() {
        rich.numbers("promise 43: BOOK", 0, 1, (y, n) -> y.enter(n, 5, 1, 0));
        rich.numbers("promise 43: DAY", 0, 116, (y, n) -> y.enter(0, n, 1, 0));
        rich.numbers("promise 43: n", -10000, 10000, (y, n) -> y.enter(0, 5, n, 0));
        rich.numbers("promise 43: HAND", 0, 9, (y, n) -> y.enter(0, 5, 1, n));
        rich.number("promise 43: n of 0", y -> y.enter(0, 5, 0, 0));
        c.is("promise 43: n of 1", Yards.rich().enter(0, 5, 1, 0), 4);
        c.is("promise 43: n of -1", Yards.rich().enter(1, 5, -1, 0), 4);
        OakYard y = new OakYard();
        y.enter(0, 0, 10000, 9);
        y.muster(0, 10000);
        c.is("promise 43: 10000 in", y.wrong(0), OakYard.NONE);
        y.enter(0, 0, -10000, 0);
        c.is("promise 43: 10000 out", y.wrong(0), 0);
        c.is("promise 43: the least of both HANDS", y.hand(0), 0);
    }

    /** Promise 43: entries are at most 100, of both BOOKS together: NONE, and it does not come. */
    private static void promise43EntriesAreAtMost100() {
        OakYard y = new OakYard();
        for (int n = 1; n <= 100; n++) {
            c.is("promise 43: entries", y.enter(n == 100 ? 0 : 1, 0, 1, 0), n);
        }
        y.muster(0, 1);
        c.is("promise 43: the 100th came", y.wrong(0), OakYard.NONE);
        for (int book = 0; book <= 1; book++) {
            int each = book;
            full.none("promise 43: a 101st entry of BOOK " + book, x -> x.enter(each, 0, 1, 0));
        }
        full.number("promise 43: a wrong 101st entry", x -> x.enter(0, 0, 0, 0));
    }

    /** Promise 44: DAY 0 to TODAY, n 0 to 100000. */
    private static void promise44Numbers() {
        rich.numbers("promise 44: DAY", 0, 116, (y, n) -> y.muster(n, 5));
        rich.numbers("promise 44: n", 0, 100000, (y, n) -> y.muster(5, n));
        OakYard y = new OakYard();
        y.muster(0, 0);
        c.is("promise 44: 0 without entries", y.wrong(0), OakYard.NONE);
        for (int n = 0; n < 10; n++) {
            y.enter(0, 0, 10000, n);
        }
        y.muster(0, 100000);
        c.is("promise 44: 0 with entries", y.wrong(0), 0);
        c.is("promise 44: 100000 without entries", y.wrong(1), 1);
    }

    /** Promise 44: MUSTERS are at most 20: NONE, and it does not come. */
    private static void promise44MustersAreAtMost20() {
        OakYard y = new OakYard();
        for (int n = 1; n <= 20; n++) {
            c.is("promise 44: musters", y.muster(0, n == 20 ? 1 : 0), n);
        }
        c.is("promise 44: the 20th is FALSE", y.wrong(0), 19);
        full.none("promise 44: a 21st muster", x -> x.muster(0, 5));
        full.number("promise 44: a wrong 21st muster", x -> x.muster(1, 5));
    }

    /** Promises 45 and 46: there is no such BOOK. */
    private static void promise45Books() {
        rich.numbers("promise 45: BOOK", 0, 1, OakYard::wrong);
        rich.numbers("promise 46: BOOK", 0, 1, OakYard::hand);
        rich.leaves("promise 45: asking", y -> y.wrong(0));
        rich.leaves("promise 46: asking", y -> y.hand(0));
        OakYard y = new OakYard();
        y.enter(0, 0, 5, 3);
        c.is("promise 45: without a MUSTER", y.wrong(0), OakYard.NONE);
        c.is("promise 46: without a MUSTER", y.hand(0), OakYard.NONE);
    }

    /** Promise 45: all entries up to that DAY together, that DAY's too, whenever they came. */
    private static void promise45UpToTheEndOfThatDay() {
        OakYard y = new OakYard();
        y.days(20);
        y.muster(10, 6);
        int[][] entries = {{11, 6, 0}, {10, 5, 0}, {9, 1, -1}, {11, -3, -1}, {0, 2, 0}, {10, -2, -1}, {20, 1, -1}};
        for (int[] e : entries) {
            y.enter(1, e[0], e[1], 4);
            c.is("promise 45: with " + e[1] + " of day " + e[0], y.wrong(1), e[2]);
        }
        c.is("promise 45: nothing of the other BOOK", y.wrong(0), 0);
    }

    /** Promise 45: the first by its DAY, then as it came, counted as they came. */
    private static void promise45TheFirstByDayThenAsItCame() {
        OakYard y = new OakYard();
        y.days(9);
        y.muster(5, 1);
        c.is("promise 45: of day 5", y.wrong(0), 0);
        y.muster(6, 1);
        c.is("promise 45: one of day 6 came", y.wrong(0), 0);
        y.muster(5, 2);
        c.is("promise 45: one more of day 5", y.wrong(0), 0);
        y.muster(4, 0);
        c.is("promise 45: one of day 4 that CLOSES", y.wrong(0), 0);
        y.muster(4, 3);
        c.is("promise 45: one of day 4 that does not", y.wrong(0), 4);
        y.enter(0, 5, 1, 0);
        y.enter(0, 4, 3, 0);
        c.is("promise 45: of day 4 the one that came first", y.wrong(0), 3);
    }

    /** Promise 46: entries behind the last MUSTER ahead of it (that CLOSES or not) and up to it. */
    private static void promise46BehindTheLastAndUpToIt() {
        int[] hands = {1, 1, 2, 3, 3};
        int[] closes = {0, 0, 90, 140, 140};
        for (int n = 0; n < hands.length; n++) {
            int ahead = 2 + n;
            for (int told = closes[n]; told <= closes[n] + 1; told++) {
                OakYard y = new OakYard();
                y.days(20);
                y.enter(0, 4, 90, 1);
                y.enter(0, 5, 50, 2);
                y.enter(0, 10, 20, 3);
                y.enter(0, 11, 99, 4);
                y.muster(ahead, told);
                y.muster(10, 7);
                boolean first = told > closes[n];
                c.is("promise 46: FALSE", y.wrong(0), first ? 0 : 1);
                c.is("promise 46: behind day " + ahead, y.hand(0), !first ? hands[n] : n < 2 ? OakYard.NONE : 1);
            }
        }
        OakYard y = new OakYard();
        y.days(20);
        y.enter(0, 0, 9, 5);
        y.enter(0, 10, 8, 6);
        y.enter(0, 11, 7, 7);
        y.muster(10, 1);
        c.is("promise 46: from DAY 0 on, and up to its DAY", y.hand(0), 5);
        y.muster(0, 9);
        c.is("promise 46: behind DAY 0", y.hand(0), 6);
        y.muster(10, 17);
        c.is("promise 46: one of the same DAY that came later is not ahead", y.hand(0), 6);
        OakYard same = new OakYard();
        same.enter(0, 0, 9, 5);
        same.muster(0, 9);
        same.muster(0, 8);
        c.is("promise 46: FALSE is the second of a DAY", same.wrong(0), 1);
        c.is("promise 46: nothing is behind the first of that DAY", same.hand(0), OakYard.NONE);
    }

    /** Promise 46: the most units together without sign, of several HANDS the least. */
    private static void promise46TheMostUnits() {
        int[][] due = {{-10, 4}, {-9, 4}, {-8, 9}, {8, 9}, {9, 4}};
        for (int[] n : due) {
            OakYard y = new OakYard();
            y.enter(0, 0, 4, 9);
            y.enter(0, 0, -5, 9);
            y.enter(0, 0, n[0], 4);
            y.muster(0, 99);
            c.is("promise 46: 4 and -5 of HAND 9, " + n[0] + " of HAND 4", y.hand(0), n[1]);
        }
        OakYard y = new OakYard();
        for (int hand = 9; hand >= 0; hand--) {
            y.enter(0, 0, hand % 2 == 0 ? 7 : -7, hand);
            y.muster(0, 99);
            c.is("promise 46: the least of several", y.hand(0), hand);
        }
    }

    /** Promise 46: NONE without a FALSE one, also without entries there. */
    private static void promise46None() {
        OakYard y = new OakYard();
        y.days(9);
        y.enter(0, 2, 5, 3);
        y.muster(5, 5);
        c.is("promise 46: it CLOSES", y.hand(0), OakYard.NONE);
        c.is("promise 46: the other BOOK is FALSE", y.wrong(1), 0);
        c.is("promise 46: but has no entries", y.hand(1), OakYard.NONE);
        y.enter(1, 6, 5, 3);
        c.is("promise 46: it has a later one alone", y.hand(1), OakYard.NONE);
        y.enter(1, 5, 1, 3);
        c.is("promise 46: it has one there", y.hand(1), 3);
    }

    /** Promise 47: cost 0 to 100000, YEAR 0 to 9, SHIPS 0 to 9, so many YEARS later 0 to 9. */
    private static void promise47Numbers() {
        rich.numbers("promise 47: cost", 0, 100000, (y, n) -> y.choice(n, 0, 1, 1));
        rich.numbers("promise 47: YEAR", 0, 9, (y, n) -> y.choice(5, n, 1, 1));
        rich.numbers("promise 47: SHIPS", 0, 9, (y, n) -> y.choice(5, 0, n, 1));
        rich.numbers("promise 47: later", 0, 9, (y, n) -> y.choice(5, 0, 1, n));
        c.is("promise 47: a 4th", Yards.rich().choice(5, 0, 1, 1), 4);
    }

    /** Promise 47: CHOICES are at most 8: NONE, and it does not come. */
    private static void promise47ChoicesAreAtMost8() {
        OakYard y = new OakYard();
        for (int n = 1; n <= 8; n++) {
            c.is("promise 47: choices", y.choice(0, 0, 1, 0), n);
            c.is("promise 47: all of them", y.best(0), (1 << n) - 1);
        }
        c.is("promise 47: a 9th", y.choice(0, 0, 9, 0), OakYard.NONE);
        c.is("promise 47: 8 stay", y.best(9), 255);
        full.none("promise 47: a 9th choice", x -> x.choice(0, 0, 9, 0));
        full.number("promise 47: a wrong 9th choice", x -> x.choice(0, 10, 9, 0));
    }

    /** Promise 48: ROW 0 to 2, YEAR 0 to 9, coin 0 to 100000. */
    private static void promise48Numbers() {
        rich.numbers("promise 48: ROW", 0, 2, (y, n) -> y.coin(n, 0, 5));
        rich.numbers("promise 48: YEAR", 0, 9, (y, n) -> y.coin(0, n, 5));
        rich.numbers("promise 48: coin", 0, 100000, (y, n) -> y.coin(0, 0, n));
    }

    /** Promise 49: bits of others count for nothing. */
    private static void promise49BitsOfOthers() {
        rich.leaves("promise 49: asking", y -> y.paid(-1));
        int[] sets = {0, 8, 256, -8, Integer.MIN_VALUE, Integer.MAX_VALUE & ~7};
        for (int set : sets) {
            c.is("promise 49: set " + set + " without CHOICES", new OakYard().paid(set | 7), true);
            c.is("promise 49: none of 3 and " + set, Yards.rich().paid(set), true);
            c.is("promise 49: two of 3 and " + set, Yards.rich().paid(set | 3), true);
            c.is("promise 49: all 3 and " + set, Yards.rich().paid(set | 7), false);
        }
        OakYard y = new OakYard();
        for (int n = 0; n < 8; n++) {
            y.choice(n == 7 ? 1 : 0, 0, 0, 0);
        }
        c.is("promise 49: the 8th bit", y.paid(128), false);
        c.is("promise 49: the 9th bit", y.paid(256), true);
        c.is("promise 49: the first 7", y.paid(127), true);
    }

    /** Promise 49: the coin that came up to each YEAR is not less than the costs up to it, that YEAR's too. */
    private static void promise49NotLessThanItsCosts() {
        for (int year = 0; year <= 9; year++) {
            for (int coin = 9; coin <= 11; coin++) {
                OakYard y = allRows(year, coin);
                y.choice(10, year, 1, 0);
                c.is("promise 49: 10 by " + coin + " in YEAR " + year, y.paid(1), coin >= 10);
                if (year < 9) {
                    OakYard sooner = allRows(year, coin);
                    sooner.choice(10, year + 1, 1, 0);
                    c.is("promise 49: by that of a YEAR ahead", sooner.paid(1), coin >= 10);
                    OakYard later = allRows(year + 1, coin);
                    later.choice(10, year, 1, 0);
                    c.is("promise 49: not by that of a YEAR behind", later.paid(1), false);
                }
            }
        }
        OakYard y = allRows(0, 10);
        y.choice(4, 0, 1, 0);
        y.choice(7, 5, 1, 0);
        c.is("promise 49: 11 of 10", y.paid(3), false);
        for (int row = 0; row < 3; row++) {
            y.coin(row, 5, 1);
        }
        c.is("promise 49: 11 of 11", y.paid(3), true);
    }

    private static OakYard allRows(int year, int coin) {
        OakYard y = new OakYard();
        for (int row = 0; row < 3; row++) {
            y.coin(row, year, coin);
        }
        return y;
    }

    /** Promise 49: by all ROWS, each of the 3 alone may be the one that does not pay; coin told anew counts. */
    private static void promise49ByAllRows() {
        for (int row = 0; row < 3; row++) {
            OakYard y = allRows(0, 10);
            y.choice(10, 0, 1, 0);
            c.is("promise 49: by all", y.paid(1), true);
            y.coin(row, 0, 9);
            c.is("promise 49: not by ROW " + row, y.paid(1), false);
            y.coin(row, 0, 10);
            c.is("promise 49: by it again", y.paid(1), true);
            y.coin(row, 0, 0);
            y.coin(row, 1, 10);
            c.is("promise 49: too late by ROW " + row, y.paid(1), false);
        }
    }

    /** Promise 50: READY by the end of a YEAR, so many YEARS later than its own; paid for in later YEARS as well. */
    private static void promise50ReadyByTheYear() {
        for (int year = 0; year <= 9; year += 3) {
            for (int later = 0; later <= 9; later += 3) {
                OakYard y = allRows(0, 5);
                y.choice(5, year, 1, later);
                c.is("promise 50: in YEAR " + year + ", " + later + " later, a YEAR sooner", y.best(year + later - 1), 0);
                c.is("promise 50: in that YEAR", y.best(year + later), 1);
                c.is("promise 50: a YEAR later", y.best(year + later + 1), 1);
            }
        }
        OakYard late = new OakYard();
        late.choice(0, 0, 1, 0);
        late.choice(5, 9, 1, 0);
        c.is("promise 50: one that is not PAID in a YEAR behind the one told", late.best(0), 1);
    }

    /** Promise 50: any YEAR may be told. */
    private static void promise50AnyYear() {
        rich.leaves("promise 50: asking", y -> y.best(9));
        OakYard y = Yards.rich();
        int[][] due = {{Integer.MIN_VALUE, 0}, {-1, 0}, {1, 0}, {2, 3}, {9, 3}, {10, 3}, {Integer.MAX_VALUE, 3}};
        for (int[] year : due) {
            c.is("promise 50: YEAR " + year[0], y.best(year[0]), year[1]);
        }
        c.is("promise 50: without CHOICES", new OakYard().best(9), 0);
    }

    /** Promise 50: the most SHIPS READY, of several the least cost, then the least bits. */
    private static void promise50OfSeveral() {
        OakYard y = allRows(0, 10);
        y.choice(10, 0, 2, 0);
        c.is("promise 50: 2 SHIPS for 10", y.best(0), 1);
        y.choice(9, 0, 2, 0);
        c.is("promise 50: 2 SHIPS for 9", y.best(0), 2);
        y.choice(9, 0, 2, 0);
        c.is("promise 50: the same again: the least bits", y.best(0), 2);
        y.choice(1, 0, 0, 0);
        c.is("promise 50: no SHIPS for 1 more", y.best(0), 2);
        y.choice(0, 0, 0, 0);
        c.is("promise 50: no SHIPS for nothing", y.best(0), 2);
        y.choice(1, 0, 1, 0);
        c.is("promise 50: one more for 1 more", y.best(0), 34);
        y.choice(11, 0, 9, 0);
        c.is("promise 50: 9 that are not PAID", y.best(0), 34);
        y.coin(0, 0, 9);
        c.is("promise 50: by the worst ROW", y.best(0), 2);
        y.coin(0, 0, 0);
        c.is("promise 50: nothing READY for nothing", y.best(0), 0);
    }

    /** Promise 50: 8 CHOICES of 9 SHIPS for 100000 each, all PAID by as much. */
    private static void promise50TheGreatestNumbers() {
        OakYard y = new OakYard();
        for (int n = 0; n < 8; n++) {
            y.choice(100000, 9, 9, 9);
        }
        for (int row = 0; row < 3; row++) {
            for (int year = 0; year < 10; year++) {
                y.coin(row, year, 80000);
            }
        }
        c.is("promise 50: 800000 by 800000", y.best(18), 255);
        c.is("promise 49: 800000 by 800000", y.paid(255), true);
        y.coin(2, 0, 79999);
        c.is("promise 49: 800000 by 799999", y.paid(255), false);
        c.is("promise 50: 7 of them", y.best(18), 127);
    }
}
