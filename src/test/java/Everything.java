import java.util.function.Supplier;
import java.util.function.ToIntFunction;

/**
 * All that a yard answers, also behind the calls that show what no question tells: two yards of which this is the same
 * are as one. Each part asks a yard of its own, as some change it.
 */
final class Everything {
    private final OakYard y;
    private final StringBuilder told = new StringBuilder();

    private Everything(OakYard yard) {
        y = yard;
    }

    static String of(Supplier<OakYard> yards) {
        return asked(yards.get()) + undone(yards.get()) + goneBack(yards.get()) + goneOn(yards.get())
                + taped(yards.get());
    }

    /** All but what may be undone, what was kept, and the tape. */
    static String ofToday(Supplier<OakYard> yards) {
        return asked(yards.get()) + goneOn(yards.get());
    }

    /** What questions tell. */
    private static String asked(OakYard yard) {
        Everything all = new Everything(yard);
        all.tellCounts();
        all.tellPieces();
        all.tellShips();
        all.tellBooksAndPlan();
        return all.told.append('\n').toString();
    }

    private static String undone(OakYard yard) {
        return "undo " + yard.undo() + ' ' + yard.undo() + ": " + asked(yard);
    }

    private static String goneBack(OakYard yard) {
        return "back " + yard.back() + ' ' + yard.undo() + ": " + asked(yard);
    }

    /** What the calls that come next show: room, roads, slips, strengths, hearts, tides and texts of later days. */
    private static String goneOn(OakYard yard) {
        Everything all = new Everything(yard);
        all.tellNext();
        return "on: " + all.told + asked(yard);
    }

    /** How long the tape is, and the text on it. */
    private static String taped(OakYard yard) {
        int length = 400;
        while (length > 0 && !yard.end(length)) {
            length--;
        }
        Everything all = new Everything(yard);
        all.tell("tape", length);
        all.tell(x -> x.warrant(4000));
        all.tell("fault", yard.fault());
        all.tellMay(4000);
        return all.told.append('\n').toString();
    }

    private void tell(String what, long answer) {
        told.append(what).append(' ').append(answer).append("; ");
    }

    private void tell(ToIntFunction<OakYard> call) {
        try {
            tell("", call.applyAsInt(y));
        } catch (RuntimeException e) {
            told.append(e.getClass().getSimpleName()).append("; ");
        }
    }

    private void tellCounts() {
        for (int what = 0; what <= 18; what++) {
            tell("count", y.count(what));
        }
        tell("fault", y.fault());
        tell("war", y.war());
        tell("gangs", y.gangs());
    }

    private void tellPieces() {
        for (int p = 0; p < y.count(3); p++) {
            told.append("\npiece ").append(p).append(": ");
            for (int what = 0; what <= 14; what++) {
                tell("", y.piece(p, what));
            }
            tell("of tree", y.ofTree(p, false));
            tell("in ships", y.ofTree(p, true));
            tell("fellows", y.fellows(p));
        }
        tellMay(y.count(0));
        tellMay(y.count(0) + 5);
        tellMay(4000);
    }

    private void tellMay(int day) {
        for (int p = 0; p < y.count(3); p++) {
            for (int x = 0; x < y.count(11); x++) {
                tell("why", y.why(p, x, day));
            }
        }
    }

    private void tellShips() {
        for (int x = 0; x < y.count(11); x++) {
            told.append("\nship ").append(x).append(": ");
            for (int what = 0; what <= 11; what++) {
                tell("", y.led(x, what));
            }
            tell("waste", y.waste(x, false));
            tell("of trees", y.waste(x, true));
            for (int n = 0; n < y.led(x, 2); n++) {
                tell("masts", y.masts(x, n));
            }
            for (int n = 0; n < Math.min(3, y.led(x, 2)); n++) {
                tell("which", y.which(x, n, false));
                tell("of trees", y.which(x, n, true));
            }
            tellTides(x);
        }
    }

    private void tellTides(int ship) {
        for (int d = 0; d < y.count(13); d++) {
            for (int day = y.count(0); day < y.count(0) + 29; day++) {
                tell("", y.lastTide(ship, d, day));
            }
            int dock = d;
            tell(x -> x.docks(dock, 1 << ship, 1));
        }
    }

    private void tellBooksAndPlan() {
        told.append("\nbooks: ");
        for (int book = 0; book <= 1; book++) {
            tell("wrong", y.wrong(book));
            tell("hand", y.hand(book));
        }
        for (int set = 0; set < 256; set++) {
            told.append(y.paid(set) ? '1' : '0');
        }
        for (int year = -1; year <= 19; year++) {
            tell("best", y.best(year));
        }
    }

    private void tellNext() {
        for (int x = 0; x < y.count(11); x++) {
            tell("lay", y.lay(x) ? 1 : 0);
            tell("gangs", y.gangs());
        }
        for (int p = 0; p < y.count(3); p++) {
            tell("shed", y.shed(p) ? 1 : 0);
        }
        for (int t = 0; t < y.count(1); t++) {
            tell("fell", y.fell(t, t % 3));
        }
        for (int n = 0; n < 45; n++) {
            y.days(1);
            for (int p = 0; p < y.count(3); p++) {
                told.append(y.piece(p, 1)).append(' ').append(y.piece(p, 7)).append(' ');
            }
            tell("chips", y.count(15));
        }
        for (int p = 0; p < y.count(3); p++) {
            tell("look", y.look(p));
        }
        tell(x -> x.choice(1, 0, 1, 0));
        tell(x -> x.enter(0, 0, 1, 0));
        tell(x -> x.enter(1, 0, 1, 0));
        tell(x -> x.muster(y.count(0), 1));
    }
}
