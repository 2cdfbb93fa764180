/** Promises 40 to 42: what is of one tree, bad fellows, and war. */
final class OneTreeAndWarTest {
    private static final Check c = new Check();

    public static void main(String[] args) {
        oneTree();
        fellows();
        war();
        warMovesPieces();
        warLeastBits();
        c.end();
    }

    private static void oneTree() {
        OakYard y = new OakYard();
        y.road(0, 0);
        y.tree(0, 0, 30, 10, 0, 0);
        y.tree(0, 0, 30, 10, 0, 0);
        y.fell(0, 2);
        y.fell(1, 2);
        y.buy(2, 0, 20, 10, 0);
        y.buy(2, 0, 20, 10, 0);
        c.is("of one tree", y.ofTree(0, false), 1);
        c.is("bought: itself alone", y.ofTree(2, false), 1);
        y.ship(5, 0, false);
        y.ship(5, 0, false);
        y.need(0, 2, 50, 10, 0);
        y.need(0, 2, 10, 10, 0);
        y.need(1, 2, 10, 10, 0);
        y.make(0, 0);
        c.is("with the mast made of it", y.ofTree(0, false), 2);
        c.is("and the other way round", y.ofTree(4, false), 2);
        c.is("of the second part's tree", y.ofTree(1, false), 1);
        c.is("in no ship", y.ofTree(0, true), 0);
        y.lay(0);
        y.lay(1);
        y.fit(1, 0, 4, true);
        c.is("in ship 1", y.ofTree(0, true), 2);
        y.shed(2);
        y.fit(0, 1, 2, true);
        c.is("a bought one in ship 0", y.ofTree(2, true), 1);
        c.is("another bought one", y.ofTree(3, true), 0);
        y.breaks(1);
        c.is("out of it again", y.ofTree(4, true), 0);
        c.refusesIndex("ofTree(5)", () -> y.ofTree(5, true));
        c.refusesIndex("ofTree(-1)", () -> y.ofTree(-1, false));
    }

    private static void fellows() {
        OakYard y = new OakYard();
        for (int p = 0; p < 6; p++) {
            y.buy(0, 0, 10, 10, 0);
        }
        int[] wait = {1, 7, 1, 6, 8};
        for (int p = 0; p < 5; p++) {
            y.days(wait[p]);
            y.shed(p);
        }
        int[] due = {2, 4, 3, 3, 1, 0};
        for (int p = 0; p < 6; p++) {
            c.is("fellows(" + p + ")", y.fellows(p), due[p]);
        }
        y.ship(5, 0, false);
        y.need(0, 0, 5, 5, 0);
        y.lay(0);
        y.fit(0, 0, 1, true);
        c.is("one in a ship", y.fellows(1), 4);
        y.out(0, 0);
        y.shed(1);
        c.is("it went in last with another", y.fellows(4), 2);
        c.is("no more with these", y.fellows(0), 1);
        c.refusesIndex("fellows(6)", () -> y.fellows(6));
        c.refusesIndex("fellows(-1)", () -> y.fellows(-1));
    }

    /** A yard with ships on slips, each with needs of planks so long. */
    private static OakYard slips(int[]... needs) {
        OakYard y = new OakYard();
        y.slips(8);
        for (int s = 0; s < needs.length; s++) {
            y.ship(5, 7, false);
            for (int length : needs[s]) {
                y.need(s, 0, length, 5, 0);
            }
            y.lay(s);
        }
        return y;
    }

    private static void shedPlanks(OakYard y, int... lengths) {
        for (int length : lengths) {
            y.shed(y.buy(0, 0, length, 5, 0));
        }
    }

    private static void war() {
        OakYard y = slips(new int[] {10}, new int[] {}, new int[] {10}, new int[] {10});
        c.is("one without needs", y.war(), 2);
        y.buy(0, 0, 10, 5, 0);
        c.is("a piece in the pond is none", y.war(), 2);
        y.shed(0);
        c.is("one piece (the work is not asked)", y.war(), 3);
        y.fit(2, 0, 0, true);
        c.is("one piece, from another ship on a slip", y.war(), 3);
        shedPlanks(y, 9);
        c.is("one that is too short", y.war(), 3);
        shedPlanks(y, 11);
        c.is("two pieces", y.war(), 7);
        y.shed(y.buy(3, 0, 10, 5, 0));
        y.shed(y.buy(1, 0, 10, 5, 0));
        c.is("those of another kind", y.war(), 7);
        OakYard sea = slips(new int[] {10}, new int[] {}, new int[] {10}, new int[] {});
        sea.ship(5, 0, false);
        sea.gang(40);
        sea.works(0, 1);
        sea.days(1);
        sea.launch(1);
        c.is("afloat, and one on a slip without needs", sea.war(), 10);
        sea.dock(10);
        sea.moor(1, 0, true);
        c.is("in a dock", sea.war(), 10);
        sea.moor(1, 0, false);
        sea.sail(1, true);
        c.is("at sea", sea.war(), 10);
        sea.sail(1, false);
        sea.breaks(1);
        c.is("broken up", sea.war(), 8);
        c.is("on paper", sea.led(4, 0), 0);
    }

    private static void warMovesPieces() {
        OakYard y = slips(new int[] {10, 20}, new int[] {15});
        shedPlanks(y, 30, 12, 17);
        c.is("each need has one that is enough", y.war(), 3);
        y.fit(0, 0, 0, true);
        c.is("others are robbed of their pieces", y.war(), 3);
        OakYard one = slips(new int[] {10, 20}, new int[] {25}, new int[] {25, 25});
        shedPlanks(one, 30, 12, 17, 26);
        c.is("two long ones for three needs", one.war(), 3);
        OakYard none = slips(new int[] {10, 20}, new int[] {25});
        shedPlanks(none, 30, 12, 17);
        c.is("one long one for two needs", none.war(), 1);
        OakYard chain = slips(new int[] {10, 20, 30}, new int[] {40, 10});
        shedPlanks(chain, 45, 35, 25, 15, 12);
        c.is("all move along", chain.war(), 3);
        OakYard afloat = slips(new int[] {10}, new int[] {10});
        shedPlanks(afloat, 10);
        afloat.fit(0, 0, 0, true);
        afloat.gang(7);
        afloat.works(0, 0);
        afloat.days(1);
        afloat.launch(0);
        c.is("one afloat is not robbed", afloat.war(), 1);
    }

    private static void warLeastBits() {
        OakYard y = slips(new int[] {10, 10, 10}, new int[] {10, 10}, new int[] {10}, new int[] {10, 10});
        shedPlanks(y, 10);
        c.is("one piece", y.war(), 4);
        shedPlanks(y, 10);
        c.is("two pieces: ship 1 has less bits", y.war(), 2);
        shedPlanks(y, 10);
        c.is("three pieces: the least bits of the most ships", y.war(), 6);
        shedPlanks(y, 10);
        c.is("four pieces: {0, 2} has less bits", y.war(), 5);
        shedPlanks(y, 10);
        c.is("five pieces", y.war(), 14);
        shedPlanks(y, 10, 10);
        c.is("seven pieces: again the least bits", y.war(), 7);
        shedPlanks(y, 10);
        c.is("eight pieces", y.war(), 15);
        OakYard long1 = slips(new int[] {20}, new int[] {10}, new int[] {10}, new int[] {20});
        shedPlanks(long1, 10, 20);
        c.is("{0, 1} ahead of {1, 2}", long1.war(), 3);
        OakYard kinds = new OakYard();
        kinds.slips(4);
        int[][] wants = {{0, 1}, {0, 3}, {1}, {3}};
        for (int s = 0; s < 4; s++) {
            kinds.ship(5, 0, false);
            for (int kind : wants[s]) {
                kinds.need(s, kind, 5, 5, 0);
            }
            kinds.lay(s);
        }
        kinds.shed(kinds.buy(0, 0, 10, 10, 0));
        kinds.shed(kinds.buy(1, 0, 10, 10, 0));
        kinds.shed(kinds.buy(3, 0, 10, 10, 0));
        c.is("{1, 2} has less bits than {0, 3}", kinds.war(), 6);
        OakYard sizes = slips(new int[] {40}, new int[] {10}, new int[] {10}, new int[] {20});
        shedPlanks(sizes, 10, 30);
        c.is("{1, 2} has less bits than {1, 3}", sizes.war(), 6);
    }
}
