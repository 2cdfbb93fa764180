/** Promises 36 to 42 at their bounds: gangs, their plan, what a DAY does, what is of one tree, fellows, and war. */
final class BoundsOfDaysTest {
    private static final Check c = new Check();
    private static final Refusals rich = new Refusals(c, Yards::rich);
    private static final Refusals full = new Refusals(c, Yards::full);

    public static void main(String[] args) {
        promise36Strengths();
        promise37GangsAndShips();
        promise37AnotherOne();
        promise38WithoutShipOrWay();
        promise38TheFirst4Ships();
        promise38TheFirst6Gangs();
        promise38DaysRoundedUp();
        promise39Numbers();
        promise39Day4000AtLast();
        promise39ComesByRoadToday();
        promise39HeartEach40Days();
        promise39DryBelow90InTheShed();
        promise39FirInThePond();
        promise39DryEnoughInAShip();
        promise39RottedAt100();
        promise39NoRotInOtherPlaces();
        promise39WorkIs0AtLeast();
        promise39WorkOfWhichShips();
        promise39ChipsOfWhichShips();
        promise39EachTime100Chips();
        promise40OfOneTree();
        promise41SevenDaysEitherWay();
        promise42WhichStatesFloat();
        promise42WhichPieces();
        promise42LeastBits();
        promise42EightShips();
        c.end();
    }

    private static void daysOn(OakYard y, int days) {
        for (int left = days; left > 0; left -= 200) {
            y.days(Math.min(200, left));
        }
    }

    /** Promise 36: STRENGTH 1 to 40; GANGS are at most 8; a wrong number is told ahead of that. */
    private static void promise36Strengths() {
        rich.numbers("promise 36: STRENGTH", 1, 40, OakYard::gang);
        OakYard y = new OakYard();
        y.ship(5, 40, false);
        y.lay(0);
        for (int n = 0; n < 8; n++) {
            c.is("promise 36: gang " + n, y.gang(n == 0 ? 1 : 40), n);
            c.is("promise 36: gangs", y.count(14), n + 1);
            c.is("promise 36: it works on none", y.works(n, OakYard.NONE), false);
        }
        c.is("promise 36: gangs on the ship", y.led(0, 11), 0);
        y.works(0, 0);
        y.days(1);
        c.is("promise 36: STRENGTH 1", y.led(0, 1), 39);
        y.works(0, OakYard.NONE);
        y.works(7, 0);
        y.days(1);
        c.is("promise 36: STRENGTH 40", y.led(0, 1), 0);
        full.more("promise 36: a 9th gang", x -> x.gang(5));
        full.number("promise 36: a wrong 9th gang", x -> x.gang(41));
    }

    /** Promise 37: there is no such GANG or SHIP; NONE is on none. */
    private static void promise37GangsAndShips() {
        rich.indices("promise 37: GANG", 3, (y, n) -> y.works(n, 1));
        rich.indices("promise 37: GANG on none", 3, (y, n) -> y.works(n, OakYard.NONE));
        for (int ship : new int[] {-2, 7, Integer.MIN_VALUE, Integer.MAX_VALUE}) {
            rich.index("promise 37: SHIP " + ship, y -> y.works(0, ship));
        }
        for (int ship = 0; ship <= 6; ship++) {
            c.is("promise 37: on ship " + ship + " in any state", Yards.rich().works(2, ship), true);
        }
    }

    /** Promise 37: whether it was another one. */
    private static void promise37AnotherOne() {
        rich.no("promise 37: on the same SHIP", y -> y.works(0, 1));
        rich.no("promise 37: on none as ahead", y -> y.works(2, OakYard.NONE));
        OakYard y = Yards.rich();
        c.is("promise 37: on another SHIP", y.works(0, 0), true);
        c.is("promise 37: on that one again", y.works(0, 0), false);
        c.is("promise 37: on none", y.works(0, OakYard.NONE), true);
        c.is("promise 37: on the first again", y.works(0, 1), true);
        c.is("promise 37: GANGS on it", y.led(1, 11), 2);
    }

    /** Ships of such work on slips, and gangs of such strength. */
    private static OakYard yard(int[] works, int... strengths) {
        OakYard y = new OakYard();
        y.slips(8);
        for (int n = 0; n < works.length; n++) {
            y.ship(5, works[n], false);
            y.lay(n);
        }
        for (int strength : strengths) {
            y.gang(strength);
        }
        return y;
    }

    /** Promise 38: 0 without a SHIP on a SLIP that has WORK left; NONE without a way, a GANG for each. */
    private static void promise38WithoutShipOrWay() {
        rich.leaves("promise 38: asking", OakYard::gangs);
        c.is("promise 38: nothing at all", yard(new int[0]).gangs(), 0);
        c.is("promise 38: GANGS without a SHIP", yard(new int[0], 5, 5).gangs(), 0);
        c.is("promise 38: SHIPS without WORK", yard(new int[] {0, 0}, 5).gangs(), 0);
        c.is("promise 38: SHIPS without WORK or GANGS", yard(new int[] {0}).gangs(), 0);
        c.is("promise 38: WORK 1 without GANGS", yard(new int[] {1}).gangs(), OakYard.NONE);
        for (int ships = 1; ships <= 4; ships++) {
            int[] works = new int[ships];
            java.util.Arrays.fill(works, 7);
            int[] fewer = new int[ships - 1];
            int[] enough = new int[ships];
            java.util.Arrays.fill(fewer, 7);
            java.util.Arrays.fill(enough, 7);
            c.is("promise 38: " + ships + " SHIPS, a GANG fewer", yard(works, fewer).gangs(), OakYard.NONE);
            c.is("promise 38: " + ships + " SHIPS, as many GANGS", yard(works, enough).gangs(), 1);
        }
        OakYard paper = new OakYard();
        paper.ship(5, 9, false);
        paper.gang(1);
        c.is("promise 38: on paper", paper.gangs(), 0);
        paper.lay(0);
        c.is("promise 38: on a SLIP", paper.gangs(), 9);
        paper.breaks(0);
        c.is("promise 38: broken up", paper.gangs(), 0);
    }

    /** Promise 38: the first 4 SHIPS on SLIPS that have WORK left; a fifth is not asked. */
    private static void promise38TheFirst4Ships() {
        c.is("promise 38: the 4th SHIP is asked", yard(new int[] {1, 1, 1, 8}, 1, 1, 1, 1).gangs(), 8);
        c.is("promise 38: the 5th is not", yard(new int[] {1, 1, 1, 8, 5000}, 1, 1, 1, 1).gangs(), 8);
        c.is("promise 38: those without WORK are none of 4", yard(new int[] {1, 0, 1, 0, 1, 0, 8}, 1, 1, 1, 1).gangs(), 8);
        c.is("promise 38: the 8th SHIP", yard(new int[] {0, 0, 0, 0, 0, 0, 0, 8}, 1).gangs(), 8);
    }

    /** Promise 38: the first 6 GANGS, wherever they work; a seventh is not asked. */
    private static void promise38TheFirst6Gangs() {
        c.is("promise 38: the 6th GANG is asked", yard(new int[] {60}, 1, 1, 1, 1, 1, 15).gangs(), 3);
        c.is("promise 38: the 7th is not", yard(new int[] {60}, 1, 1, 1, 1, 1, 15, 40).gangs(), 3);
        c.is("promise 38: nor the 8th", yard(new int[] {60}, 1, 1, 1, 1, 1, 15, 40, 40).gangs(), 3);
        OakYard y = yard(new int[] {60, 0}, 20, 10);
        y.works(0, 1);
        y.works(1, 1);
        c.is("promise 38: GANGS that work on another SHIP", y.gangs(), 2);
        c.is("promise 38: 4 SHIPS, 6 GANGS", yard(new int[] {10, 20, 30, 40}, 10, 10, 10, 20, 20, 30).gangs(), 1);
        c.is("promise 38: 4 SHIPS, 6 GANGS, one day more", yard(new int[] {11, 20, 30, 40}, 10, 10, 10, 20, 20, 30).gangs(),
                2);
    }

    /** Promise 38: DAYS in which the WORK is done, a part of a DAY is one; FIT or not. */
    private static void promise38DaysRoundedUp() {
        int[][] due = {{1, 1}, {6, 1}, {7, 1}, {8, 2}, {14, 2}, {15, 3}, {5000, 715}};
        for (int[] work : due) {
            c.is("promise 38: WORK " + work[0] + " by 7", yard(new int[] {work[0]}, 7).gangs(), work[1]);
        }
        OakYard y = new OakYard();
        y.ship(5, 5000, false);
        y.need(0, 0, 300, 60, 0);
        y.lay(0);
        y.gang(1);
        c.is("promise 38: NEEDS not FIT", y.gangs(), 5000);
    }

    /** Promise 39: 0 to 200 DAYS; 0 do nothing. */
    private static void promise39Numbers() {
        rich.numbers("promise 39: DAYS", 0, 200, OakYard::days);
        rich.answers("promise 39: 0 DAYS", 116, y -> y.days(0));
        c.is("promise 39: 1 DAY", Yards.rich().days(1), 117);
        c.is("promise 39: 200 DAYS", Yards.rich().days(200), 316);
    }

    /** Promise 39: as far as DAY may go: 4000 at last. */
    private static void promise39Day4000AtLast() {
        OakYard y = new OakYard();
        daysOn(y, 3800);
        c.is("promise 39: 199 from 3800", y.days(199), 3999);
        c.is("promise 39: one more", y.days(1), 4000);
        y.undo();
        c.is("promise 39: 200 from 3999", y.days(200), 4000);
        Refusals last = new Refusals(c, BoundsOfDaysTest::onTheLastDay);
        last.answers("promise 39: 1 from 4000", 4000, x -> x.days(1));
        last.answers("promise 39: 200 from 4000", 4000, x -> x.days(200));
        last.answers("promise 39: 0 from 4000", 4000, x -> x.days(0));
        last.number("promise 39: 201 from 4000", x -> x.days(201));
        OakYard rot = onTheLastDay();
        c.is("promise 39: ROT of 4000 days", rot.piece(0, 7), 8);
        c.is("promise 39: DRY of 4000 days", rot.piece(0, 6), 4000);
    }

    private static OakYard onTheLastDay() {
        OakYard y = new OakYard();
        y.buy(0, 0, 10, 10, 0);
        y.shed(0);
        daysOn(y, 4000);
        return y;
    }

    /** Promise 39 (a): what comes by road today is in the pond, and rots there today. */
    private static void promise39ComesByRoadToday() {
        for (int road = 4; road <= 6; road++) {
            OakYard y = new OakYard();
            y.road(0, road);
            y.tree(0, 2, 10, 10, 0, 0);
            y.fell(0, 0);
            y.days(5);
            c.is("promise 39: ROAD " + road + " on day 5", y.piece(0, 1), road <= 5 ? 1 : 0);
            c.is("promise 39: its ROT", y.piece(0, 7), road <= 5 ? 1 : 0);
        }
    }

    /** Promise 39 (b): if DAY is a multiple of 40 half the HEART, rounded down, more, in pond, shed and ship. */
    private static void promise39HeartEach40Days() {
        for (int heart = 0; heart <= 9; heart++) {
            for (int place = 1; place <= 3; place++) {
                OakYard y = new OakYard();
                y.road(0, 0);
                y.tree(0, 0, 10, 10, 0, heart);
                y.fell(0, 0);
                y.ship(5, 0, false);
                y.need(0, 0, 5, 5, 0);
                y.lay(0);
                y.shed(0);
                y.days(100);
                toPlace(y, place);
                int rot = y.piece(0, 7);
                y.days(19);
                c.is("promise 39: HEART " + heart + " in place " + place + " on day 119", y.piece(0, 7), rot);
                y.days(1);
                c.is("promise 39: on day 120", y.piece(0, 7), rot + heart / 2 + (place == 3 ? 1 : 0));
            }
        }
    }

    /** Puts piece 0 from the shed into ship 0, and on into the pond, as far as is told. */
    private static void toPlace(OakYard y, int place) {
        if (place != 2) {
            y.fit(0, 0, 0, true);
        }
        if (place == 1) {
            y.out(0, 0);
        }
    }

    /** Promise 39 (b): in the shed DRY is 1 more, then, if DAY is a multiple of 10 and DRY is below 90, ROT 1 more. */
    private static void promise39DryBelow90InTheShed() {
        for (int sort = 0; sort <= 2; sort++) {
            for (int from = 9; from <= 11; from++) {
                OakYard y = new OakYard();
                y.buy(0, sort, 10, 10, 0);
                y.days(from);
                int rot = y.piece(0, 7);
                y.shed(0);
                y.days(99 - from);
                c.is("promise 39: DRY on day 99", y.piece(0, 6), 99 - from);
                c.is("promise 39: ROT on day 99", y.piece(0, 7), rot + (from < 10 ? 9 : 8));
                y.days(1);
                boolean dry = 100 - from >= 90;
                c.is("promise 39: ROT with DRY " + (100 - from), y.piece(0, 7), rot + (from < 10 ? 9 : 8) + (dry ? 0 : 1));
            }
        }
    }

    /** Promise 39 (b): in the pond FIR alone, if DAY is a multiple of 5; DRY is not more. */
    private static void promise39FirInThePond() {
        OakYard y = new OakYard();
        for (int sort = 0; sort <= 2; sort++) {
            y.buy(sort, sort, 10, 10, 0);
        }
        for (int day = 1; day <= 41; day++) {
            y.days(1);
            for (int sort = 0; sort <= 2; sort++) {
                c.is("promise 39: SORT " + sort + " on day " + day, y.piece(sort, 7), sort == 2 ? day / 5 : 0);
                c.is("promise 39: DRY", y.piece(sort, 6), 0);
            }
        }
    }

    /** Promise 39 (b): in a ship, if DRY is below what its SORT wants (oak 100, elm 60, fir 40), or DAY of 20. */
    private static void promise39DryEnoughInAShip() {
        int[] wants = {100, 60, 40};
        for (int sort = 0; sort <= 2; sort++) {
            for (int dry = wants[sort] - 1; dry <= wants[sort] + 1; dry++) {
                OakYard y = new OakYard();
                y.buy(0, sort, 10, 10, 0);
                y.ship(5, 0, false);
                y.need(0, 0, 5, 5, 0);
                y.lay(0);
                y.days(121 - dry);
                int ahead = y.piece(0, 7);
                y.shed(0);
                y.days(dry);
                y.fit(0, 0, 0, true);
                int rot = y.piece(0, 7);
                c.is("promise 39: ROT was told", rot >= ahead, true);
                for (int day = 122; day <= 140; day++) {
                    y.days(1);
                    int more = dry < wants[sort] ? day - 121 : day / 20 - 6;
                    c.is("promise 39: SORT " + sort + ", DRY " + dry + ", day " + day, y.piece(0, 7), rot + more);
                    c.is("promise 39: DRY stays", y.piece(0, 6), dry);
                }
            }
        }
    }

    /** Promise 39 (b): ROT is 100 at most; a PIECE in pond or shed that has so much is rotted, one in a ship is not. */
    private static void promise39RottedAt100() {
        OakYard y = new OakYard();
        y.buy(0, 2, 10, 10, 0);
        daysOn(y, 499);
        c.is("promise 39: ROT 99 in the pond", y.piece(0, 7), 99);
        c.is("promise 39: in the pond", y.piece(0, 1), 1);
        y.days(1);
        c.is("promise 39: ROT 100", y.piece(0, 7), 100);
        c.is("promise 39: rotted", y.piece(0, 1), 6);
        OakYard shed = new OakYard();
        shed.buy(0, 2, 10, 10, 0);
        daysOn(shed, 499);
        shed.shed(0);
        c.is("promise 39: ROT 99 in the shed", shed.piece(0, 1), 2);
        shed.days(1);
        c.is("promise 39: ROT 100 in the shed", shed.piece(0, 7), 100);
        c.is("promise 39: rotted", shed.piece(0, 1), 6);
        OakYard ship = new OakYard();
        ship.buy(0, 0, 10, 10, 0);
        ship.shed(0);
        ship.ship(5, 0, false);
        ship.need(0, 0, 5, 5, 0);
        ship.lay(0);
        ship.fit(0, 0, 0, true);
        ship.days(100);
        c.is("promise 39: ROT 100 in a ship", ship.piece(0, 7), 100);
        ship.days(100);
        c.is("promise 39: 100 at most", ship.piece(0, 7), 100);
        c.is("promise 39: in the ship", ship.piece(0, 1), 3);
        ship.out(0, 0);
        ship.days(1);
        c.is("promise 39: out of it it is rotted by the DAY", ship.piece(0, 1), 6);
    }

    /** Promise 39 (b): on the road, carried home, used up and rotted it rots and dries no more; a ROPE never does. */
    private static void promise39NoRotInOtherPlaces() {
        OakYard y = Yards.rich();
        y.end(0);
        Check.warrant(y, "fit plank", 121);
        int[] pieces = {0, 1, 4, 5, 8, 13};
        int[] rots = new int[15];
        int[] dries = new int[15];
        for (int p : pieces) {
            rots[p] = y.piece(p, 7);
            dries[p] = y.piece(p, 6);
        }
        y.days(56);
        for (int p : pieces) {
            c.is("promise 39: ROT of " + p, y.piece(p, 7), rots[p]);
            c.is("promise 39: DRY of " + p, y.piece(p, 6), dries[p]);
        }
        c.is("promise 39: on the road up to day 172", y.piece(13, 1), 0);
        y.days(1);
        c.is("promise 39: in the pond on day 173", y.piece(13, 1), 1);
    }

    /** Promise 39 (d): WORK less by the STRENGTH, 0 at least. */
    private static void promise39WorkIs0AtLeast() {
        for (int work = 6; work <= 9; work++) {
            OakYard y = yard(new int[] {work}, 7);
            y.works(0, 0);
            y.days(1);
            c.is("promise 39: WORK " + work + " less 7", y.led(0, 1), Math.max(0, work - 7));
            y.days(1);
            c.is("promise 39: 0 at least", y.led(0, 1), 0);
        }
        OakYard two = yard(new int[] {10}, 7, 7);
        two.works(0, 0);
        two.works(1, 0);
        two.days(1);
        c.is("promise 39: two GANGS", two.led(0, 1), 0);
    }

    /** Promise 39 (d): on a SLIP or in a DOCK, all NEEDS FIT; no WORK is done on paper or with one NEED not FIT. */
    private static void promise39WorkOfWhichShips() {
        OakYard y = new OakYard();
        y.ship(5, 20, false);
        y.need(0, 0, 5, 5, 0);
        y.need(0, 0, 5, 5, 0);
        y.gang(3);
        y.works(0, 0);
        y.shed(y.buy(0, 0, 10, 10, 0));
        y.shed(y.buy(0, 0, 10, 10, 0));
        y.days(1);
        c.is("promise 39: on paper", y.led(0, 1), 20);
        y.lay(0);
        y.fit(0, 0, 0, true);
        y.days(1);
        c.is("promise 39: one of two NEEDS FIT", y.led(0, 1), 20);
        y.fit(0, 1, 1, true);
        y.days(1);
        c.is("promise 39: both FIT", y.led(0, 1), 17);
        y.out(0, 0);
        y.days(1);
        c.is("promise 39: one taken OUT", y.led(0, 1), 17);
        y.works(0, OakYard.NONE);
        y.shed(0);
        y.fit(0, 0, 0, true);
        y.days(1);
        c.is("promise 39: without a GANG", y.led(0, 1), 17);
    }

    /** Promise 39 (d): CHIPS of a GANG on any SHIP, but on paper, at sea or broken up; as all chip LINES tell. */
    private static void promise39ChipsOfWhichShips() {
        boolean[] carries = {true, true, false, true, false, false, true};
        for (int ship = 0; ship <= 6; ship++) {
            OakYard y = Yards.rich();
            y.end(0);
            Check.warrant(y, "chip 1000; chip 0; chip 30 if gangs > 0; chip 400 if gangs > 1; chip 5 if dry > 0 or rot > 0"
                    + " or thick > 0 or long > 0 or age > 0 or oak or elm or fir or seen", 116);
            y.works(0, OakYard.NONE);
            y.works(1, OakYard.NONE);
            y.works(2, ship);
            int chips = y.count(15);
            y.why(2, 1, 116);
            y.days(1);
            c.is("promise 39: CHIPS of ship " + ship, y.count(15), chips + (carries[ship] ? 1030 : 0));
        }
    }

    /** Promise 39 (d): each time that the CHIPS in all come to 100 more the first PLANK in the shed is carried home. */
    private static void promise39EachTime100Chips() {
        int[][] due = {{99, 0}, {100, 1}, {101, 1}, {199, 1}, {200, 2}, {250, 2}, {300, 3}, {301, 3}, {1000, 3}};
        for (int[] chips : due) {
            OakYard y = shedOfPlanks(3);
            Check.warrant(y, "chip " + chips[0], 0);
            y.days(1);
            c.is("promise 39: carried home by " + chips[0] + " CHIPS", y.count(8), chips[1]);
            for (int p = 0; p < 3; p++) {
                c.is("promise 39: PLANK " + p, y.piece(p, 1), p < chips[1] ? 4 : 2);
            }
            c.is("promise 39: CHIPS in all", y.count(15), chips[0]);
        }
        OakYard slow = shedOfPlanks(3);
        Check.warrant(slow, "chip 33", 0);
        slow.days(3);
        c.is("promise 39: 99 in three DAYS", slow.count(8), 0);
        slow.days(1);
        c.is("promise 39: 132", slow.count(8), 1);
        slow.days(2);
        c.is("promise 39: 198", slow.count(8), 1);
        slow.days(1);
        c.is("promise 39: 231", slow.count(8), 2);
        OakYard none = shedOfPlanks(0);
        Check.warrant(none, "chip 100", 0);
        none.days(1);
        none.shed(none.buy(2, 0, 10, 10, 0));
        none.buy(0, 0, 10, 10, 0);
        none.days(1);
        c.is("promise 39: no PLANK in the shed", none.count(8), 0);
        none.shed(1);
        none.days(1);
        c.is("promise 39: one in the shed", none.piece(1, 1), 4);
    }

    /** So many planks in the shed, a ship on a slip, and a gang on it. */
    private static OakYard shedOfPlanks(int planks) {
        OakYard y = yard(new int[] {5000}, 1);
        y.works(0, 0);
        for (int p = 0; p < planks; p++) {
            y.shed(y.buy(0, 0, 10, 10, 0));
        }
        return y;
    }

    /** Promise 40: the PIECES of that TREE and the SHIPS in which they are; a BOUGHT one: itself alone. */
    private static void promise40OfOneTree() {
        rich.indices("promise 40: PIECE", 15, (y, n) -> y.ofTree(n, false));
        rich.indices("promise 40: PIECE", 15, (y, n) -> y.ofTree(n, true));
        rich.leaves("promise 40: asking", y -> y.ofTree(12, true));
        OakYard y = new OakYard();
        y.road(0, 0);
        y.slips(8);
        y.tree(0, 0, 50, 10, 0, 0);
        y.fell(0, 2);
        for (int n = 0; n < 8; n++) {
            y.ship(5, 0, false);
            y.need(n, 2, n == 0 ? 90 : 5, 5, 0);
            y.lay(n);
        }
        c.is("promise 40: one PIECE of a TREE", y.ofTree(0, false), 1);
        c.is("promise 40: in no SHIP", y.ofTree(0, true), 0);
        y.buy(2, 0, 50, 10, 0);
        y.make(0, 0);
        c.is("promise 40: with what was MADE of it", y.ofTree(0, false), 2);
        c.is("promise 40: BOUGHT and used up, itself alone", y.ofTree(1, false), 1);
        y.fit(7, 0, 2, true);
        c.is("promise 40: in the 8th SHIP", y.ofTree(0, true), 128);
        c.is("promise 40: of the one in it", y.ofTree(2, true), 128);
        c.is("promise 40: not that of another", y.ofTree(1, true), 0);
        y.shed(y.buy(2, 0, 50, 10, 0));
        y.fit(6, 0, 3, true);
        c.is("promise 40: a BOUGHT one in a SHIP", y.ofTree(3, true), 64);
        c.is("promise 40: a BOUGHT one, alone", y.ofTree(3, false), 1);
    }

    /** Promise 41: within 7 days of it, either way, itself too; 0, if it never went into the shed. */
    private static void promise41SevenDaysEitherWay() {
        rich.indices("promise 41: PIECE", 15, (y, n) -> y.fellows(n));
        rich.leaves("promise 41: asking", y -> y.fellows(12));
        for (int apart = 6; apart <= 8; apart++) {
            OakYard y = new OakYard();
            y.buy(0, 0, 10, 10, 0);
            y.buy(0, 0, 10, 10, 0);
            y.buy(0, 0, 10, 10, 0);
            c.is("promise 41: it never went in", y.fellows(0), 0);
            y.shed(0);
            c.is("promise 41: itself", y.fellows(0), 1);
            y.days(apart);
            y.shed(1);
            int due = apart <= 7 ? 2 : 1;
            c.is("promise 41: one that went in " + apart + " days later", y.fellows(0), due);
            c.is("promise 41: one that went in " + apart + " days sooner", y.fellows(1), due);
            c.is("promise 41: one that never did", y.fellows(2), 0);
        }
        OakYard y = new OakYard();
        y.buy(0, 0, 10, 10, 0);
        y.buy(0, 0, 10, 10, 0);
        y.shed(0);
        y.shed(1);
        y.ship(5, 0, false);
        y.need(0, 0, 5, 5, 0);
        y.lay(0);
        y.fit(0, 0, 0, true);
        y.out(0, 0);
        y.days(8);
        c.is("promise 41: both on day 0", y.fellows(1), 2);
        y.shed(0);
        c.is("promise 41: the day it went in last", y.fellows(1), 1);
    }

    /** Promise 42: those afloat, in a DOCK or at sea; on paper and broken up none; without NEEDS on a SLIP, too. */
    private static void promise42WhichStatesFloat() {
        rich.leaves("promise 42: asking", OakYard::war);
        c.is("promise 42: no SHIPS", new OakYard().war(), 0);
        c.is("promise 42: afloat 0 and 6, in a DOCK 3, at sea 4, to be FIT 1", Yards.rich().war(), 1 | 2 | 8 | 16 | 64);
        OakYard less = Yards.rich();
        less.breaks(1);
        c.is("promise 42: broken up", less.war(), 1 | 8 | 16 | 64);
        OakYard y = Yards.rich();
        y.slips(3);
        c.is("promise 42: on paper", y.war() & 4, 0);
        y.lay(2);
        c.is("promise 42: its ROPE is there, and a PLANK", y.war() & 4, 4);
        OakYard empty = new OakYard();
        empty.ship(5, 5000, false);
        c.is("promise 42: on paper without NEEDS", empty.war(), 0);
        empty.lay(0);
        c.is("promise 42: on a SLIP without NEEDS, WORK is not asked", empty.war(), 1);
    }

    /** Promise 42: PIECES of the shed and of SHIPS on SLIPS, whether they MAY or not; of no other place. */
    private static void promise42WhichPieces() {
        OakYard y = new OakYard();
        y.slips(8);
        for (int n = 0; n < 3; n++) {
            y.ship(5, 0, false);
            y.need(n, 0, 10, 10, 0);
            y.lay(n);
        }
        y.buy(0, 0, 10, 10, 0);
        c.is("promise 42: in the pond", y.war(), 0);
        y.shed(0);
        c.is("promise 42: in the shed, though it MAY NOT", y.war(), 1);
        y.fit(2, 0, 0, true);
        c.is("promise 42: in a SHIP on a SLIP, others are robbed", y.war(), 1);
        y.launch(2);
        c.is("promise 42: in a SHIP afloat", y.war(), 4);
        y.buy(0, 0, 9, 10, 0);
        y.buy(0, 0, 10, 9, 0);
        y.buy(2, 0, 10, 10, 0);
        for (int p = 1; p <= 3; p++) {
            y.shed(p);
        }
        c.is("promise 42: too short, too thin, another kind", y.war(), 4);
        y.buy(0, 0, 10, 10, 0);
        y.shed(4);
        c.is("promise 42: just enough", y.war(), 5);
    }

    /** Promise 42: the most SHIPS; of several such sets the least bits. */
    private static void promise42LeastBits() {
        for (int planks = 0; planks <= 6; planks++) {
            OakYard y = new OakYard();
            y.slips(8);
            int[] needs = {3, 1, 2, 1};
            for (int n = 0; n < needs.length; n++) {
                y.ship(5, 0, false);
                for (int k = 0; k < needs[n]; k++) {
                    y.need(n, 0, 10, 10, 0);
                }
                y.lay(n);
            }
            for (int p = 0; p < planks; p++) {
                y.shed(y.buy(0, 0, 10, 10, 0));
            }
            int[] due = {0, 2, 10, 6, 14, 11, 7};
            c.is("promise 42: " + planks + " PLANKS", y.war(), due[planks]);
        }
    }

    /** Promise 42: 8 SHIPS of 8 NEEDS with 64 PIECES that are just enough, and with one fewer. */
    private static void promise42EightShips() {
        for (int planks = 63; planks <= 65; planks++) {
            OakYard y = new OakYard();
            y.slips(8);
            y.sheds(120);
            for (int n = 0; n < 8; n++) {
                y.ship(5, 0, false);
                for (int k = 0; k < 8; k++) {
                    y.need(n, 0, 10 + 8 * n + k, 10, 0);
                }
                y.lay(n);
            }
            for (int p = 0; p < planks; p++) {
                y.shed(y.buy(0, 0, 73 - p % 64, 10, 0));
            }
            c.is("promise 42: " + planks + " PIECES for 64 NEEDS", y.war(), planks < 64 ? 127 : 255);
        }
    }
}
