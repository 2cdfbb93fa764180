import java.lang.management.ManagementFactory;

/** How much room a yard takes, and that calls make nothing new but the rows of a text. */
final class RoomTest {
    private static final com.sun.management.ThreadMXBean THREADS =
            (com.sun.management.ThreadMXBean) ManagementFactory.getThreadMXBean();
    private static final Check c = new Check();

    public static void main(String[] args) {
        OakYard y = yard();
        calls(y);
        long before = bytes();
        calls(y);
        long made = bytes() - before;
        c.is("bytes made by calls that need none", made < 1000 ? 0 : made, 0);
        before = bytes();
        OakYard[] yards = new OakYard[100];
        for (int n = 0; n < yards.length; n++) {
            yards[n] = new OakYard();
        }
        long each = (bytes() - before) / yards.length;
        c.is("a yard takes " + each + " bytes, less than 120000", each < 120000, true);
        before = bytes();
        for (int n = 0; n < 100; n++) {
            y.beside(0, false);
        }
        each = (bytes() - before) / 100;
        c.is("an empty text takes " + each + " bytes, less than 200", each < 200, true);
        c.is("the yards are all there", yards[99].count(0), 0);
        c.end();
    }

    private static long bytes() {
        return THREADS.getCurrentThreadAllocatedBytes();
    }

    private static OakYard yard() {
        OakYard y = new OakYard();
        Check.warrant(y, "fit plank if not (oak and dry > 500) or gangs > 5; chip 1; owe 5; look 50", 0);
        y.slips(8);
        y.sheds(120);
        y.dock(10);
        for (int x = 0; x < 8; x++) {
            y.ship(5, 10, true);
            for (int n = 0; n < 8; n++) {
                y.need(x, 0, 10, 5, 0);
            }
            y.lay(x);
            y.gang(x + 1);
            y.tree(0, 0, 50, 10, 0, 3);
        }
        for (int p = 0; p < 119; p++) {
            y.shed(y.buy(p % 5 == 0 ? 2 : 0, p % 3, 12 + p % 9, 10, 0));
        }
        y.enter(0, 0, 5, 5);
        y.muster(0, 5);
        y.choice(5, 5, 5, 5);
        return y;
    }

    private static void calls(OakYard y) {
        y.keep();
        y.war();
        y.gangs();
        y.waste(0, false);
        y.which(0, 7, false);
        y.waste(1, true);
        y.masts(0, 0);
        y.docks(0, 0, 5);
        y.fell(0, 0);
        y.fit(0, 0, 1, false);
        y.out(0, 0);
        y.days(200);
        y.undo();
        y.look(3);
        y.ofTree(3, true);
        y.fellows(3);
        y.hand(0);
        y.best(9);
        y.lastTide(0, 0, 4000);
        y.piece(3, 7);
        y.led(3, 7);
        y.count(6);
        y.back();
    }
}
