import java.util.function.Supplier;

/** Promises 2, 3, 12 to 15 and 51 at their bounds: the tape, texts, their first wrong byte, and what they let. */
final class BoundsOfTextsTest {
    private static final Check c = new Check();
    private static final Refusals rich = new Refusals(c, Yards::rich);
    private static final String RIGHT = "look 7; fit plank";
    private static final String WRONG_AT_7 = "look 1 x";

    public static void main(String[] args) {
        promise2AtMost400();
        promise2TheHighestFirst();
        promise3TheFirstBytesAlone();
        promise12Days();
        promise12TextsAreAtMost10();
        promise12WrongTexts();
        promise12Lines();
        promise12Numbers();
        promise12Deep();
        promise12Words();
        promise12Blanks();
        promise12MoreMustCome();
        promise12TheFirstOfSeveral();
        promise13Faults();
        promise14NoSuchPieceOrShip();
        promise14Days();
        promise14Facts();
        promise14NumbersAsTheyAreNow();
        promise14Tags();
        promise14AndOrNot();
        promise15TheFirstLine();
        promise51Refusals();
        promise51Texts();
        c.end();
    }

    private static OakYard withTape(OakYard y, String text) {
        y.end(0);
        Check.type(y, text);
        return y;
    }

    /** What is refused of a yard with that text on its tape, and uses the tape up. */
    private static Refusals spending(Supplier<OakYard> yards, String text) {
        return new Refusals(c, () -> withTape(yards.get(), text), () -> withTape(yards.get(), ""));
    }

    /** Promise 2: NONE, and none come, if it would have more than 400 bytes. */
    private static void promise2AtMost400() {
        OakYard y = new OakYard();
        for (int n = 1; n <= 20; n++) {
            c.is("promise 2: feed " + n, y.feed(0x6c6f6f6b, 0x20312020, 0x20202020, 0x20202020, 0x20202020), 20 * n);
        }
        new Refusals(c, Yards::full).none("promise 2: 20 behind 400", x -> x.feed(1, 2, 3, 4, 5));
        for (int length : new int[] {381, 399, 400}) {
            Refusals r = new Refusals(c, () -> withTape(Yards.rich(), " ".repeat(length)));
            r.none("promise 2: 20 behind " + length, x -> x.feed(1, 2, 3, 4, 5));
        }
        for (int length : new int[] {0, 1, 379, 380}) {
            OakYard x = withTape(Yards.rich(), " ".repeat(length));
            c.is("promise 2: 20 behind " + length, x.feed(1, 2, 3, 4, 5), length + 20);
        }
    }

    /** Promise 2: of each number the highest byte first, behind what is there; a byte is 0 to 255 (-1: four of 255). */
    private static void promise2TheHighestFirst() {
        OakYard y = new OakYard();
        y.feed(0x66697420, 0x706c616e, 0x6b3b6c6f, 0x6f6b2031, 0x32203b20);
        y.feed(0x6368690a, -1, Integer.MIN_VALUE, Integer.MAX_VALUE, 0);
        y.end(19);
        c.is("promise 2: 'fit plank;look 12 ;' wants more", faultOf(y), 19);
        y.feed(0x66697420, 0x706c616e, 0x6b3b6c6f, 0x6f6b2031, 0x32203b20);
        y.feed(0x63686970, 0x20392020, 0, 0, 0);
        y.end(26);
        c.is("promise 2: 'fit plank;look 12 ; chip 9'", y.warrant(0), 3);
        y.feed(-1, 0, 0, 0, 0);
        c.is("promise 2: a byte 255 is no blank", faultOf(y), 0);
        y.feed(0x20202020, 0x20202080, 0, 0, 0);
        c.is("promise 2: a byte 128 is no blank", faultOf(y), 7);
        y.feed(0x20202020, Integer.MIN_VALUE, 0, 0, 0);
        c.is("promise 2: its highest byte comes first", faultOf(y), 4);
        y.feed(0x20202020, 0x20200020, 0, 0, 0);
        c.is("promise 2: a byte 0 is no blank", faultOf(y), 6);
    }

    private static int faultOf(OakYard y) {
        c.refusesNumber("a wrong text", () -> y.warrant(0));
        return y.fault();
    }

    /** Promise 3: the first n bytes alone; false, and nothing happens, if it has fewer, or n is below 0. */
    private static void promise3TheFirstBytesAlone() {
        for (int n : new int[] {-1, 29, 400, 401, Integer.MIN_VALUE, Integer.MAX_VALUE}) {
            rich.no("promise 3: end(" + n + ") of 28 bytes", y -> y.end(n));
        }
        rich.leaves("promise 3: end(28) of 28 bytes", y -> c.is("promise 3: end(28)", y.end(28), true));
        Refusals none = new Refusals(c, OakYard::new);
        none.no("promise 3: end(1) of an empty tape", y -> y.end(1));
        none.leaves("promise 3: end(0) of an empty tape", y -> c.is("promise 3: end(0)", y.end(0), true));
        OakYard y = new OakYard();
        for (int n = 0; n <= 12; n++) {
            Check.type(y, "look 7;look8");
            c.is("promise 3: end(" + n + ")", y.end(n), true);
            c.is("promise 3: it has no more", y.end(n + 1), false);
            int due = n == 0 ? 0 : n == 6 ? 1 : n == 12 ? 2 : -1;
            if (due >= 0) {
                c.is("promise 3: lines of " + n + " bytes", y.warrant(0), due);
            } else {
                c.is("promise 3: fault of " + n + " bytes", faultOf(y), n == 5 ? 5 : n < 4 ? 0 : n < 7 ? 4 : n < 11 ? 7 : 11);
            }
        }
    }

    /** Promise 12: a DAY from today's on, 4000 at most; the DAY is told ahead of the text; the tape is used up. */
    private static void promise12Days() {
        Refusals right = spending(Yards::rich, RIGHT);
        Refusals wrong = spending(Yards::rich, "?");
        for (int day : new int[] {115, 4001, -1, Integer.MIN_VALUE, Integer.MAX_VALUE}) {
            right.number("promise 12: from day " + day + " on", y -> y.warrant(day));
            wrong.number("promise 12: a wrong text from day " + day + " on is not read", y -> y.warrant(day));
        }
        for (int day : new int[] {116, 117, 4000}) {
            OakYard y = withTape(Yards.rich(), RIGHT);
            c.is("promise 12: from day " + day + " on", y.warrant(day), 2);
            c.is("promise 12: texts", y.count(16), 3);
            c.is("promise 12: it is in force on that day", y.why(14, 1, day), 1);
            c.is("promise 12: not the day before", y.why(14, 1, day - 1), 0);
        }
        OakYard last = new OakYard();
        for (int n = 0; n < 20; n++) {
            last.days(200);
        }
        c.is("promise 12: day 4000 on day 4000", Check.warrant(last, "look 1", 4000), 1);
        Check.type(last, "look 1");
        c.refusesNumber("promise 12: day 3999 on day 4000", () -> last.warrant(3999));
    }

    /** Promise 12: at most 10 texts; a wrong day and a wrong text are told ahead of that. */
    private static void promise12TextsAreAtMost10() {
        OakYard y = new OakYard();
        for (int n = 1; n <= 10; n++) {
            c.is("promise 12: text " + n, Check.warrant(y, "fit plank", n % 3), 1);
            c.is("promise 12: texts", y.count(16), n);
        }
        spending(Yards::full, RIGHT).more("promise 12: an 11th text", x -> x.warrant(0));
        spending(Yards::full, "").more("promise 12: an 11th text without lines", x -> x.warrant(4000));
        spending(Yards::full, RIGHT).number("promise 12: an 11th text of a wrong day", x -> x.warrant(4001));
        OakYard full = withTape(Yards.full(), "look 1 look");
        c.refusesNumber("promise 12: a wrong 11th text", () -> full.warrant(0));
        c.is("promise 12: its first wrong byte", full.fault(), 7);
        c.is("promise 12: the tape is used up", full.end(1), false);
        c.is("promise 12: texts", full.count(16), 10);
    }

    /** Promise 12: a wrong text uses the tape up and does nothing else (but for fault()). */
    private static void promise12WrongTexts() {
        Refusals wrong = spending(Yards::rich, WRONG_AT_7);
        wrong.number("promise 12: a wrong text from today on", y -> y.warrant(116));
        wrong.number("promise 12: a wrong text from day 4000 on", y -> y.warrant(4000));
        OakYard y = withTape(Yards.rich(), RIGHT);
        y.warrant(116);
        c.is("promise 12: a right text uses the tape up", y.end(1), false);
    }

    /** Promise 12: 0 to 12 LINES; of a 13th its first word is wrong, whatever it is. */
    private static void promise12Lines() {
        c.is("promise 12: an empty text", Check.warrant(new OakYard(), "", 0), 0);
        c.is("promise 12: one blank", Check.warrant(new OakYard(), " ", 0), 0);
        c.is("promise 12: 400 blanks", Check.warrant(new OakYard(), " ".repeat(400), 0), 0);
        for (int lines = 1; lines <= 12; lines++) {
            OakYard y = new OakYard();
            c.is("promise 12: lines", Check.warrant(y, "look 1" + ";look 2".repeat(lines - 1), 0), lines);
            c.is("promise 12: lines of today", y.count(17), lines);
        }
        String twelve = "look 1" + " ; look 2".repeat(11);
        int length = twelve.length();
        faulty(twelve + ";look 3", length + 1);
        faulty(twelve + " ;  look 3", length + 4);
        faulty(twelve + ";plank", length + 1);
        faulty(twelve + ";5", length + 1);
        faulty(twelve + ";;", length + 1);
        faulty(twelve + ";", length + 1);
        faulty(twelve + ";  ", length + 3);
        faulty(twelve + " look", length + 1);
        OakYard y = new OakYard();
        y.buy(0, 0, 10, 10, 0);
        y.ship(5, 0, false);
        Check.warrant(y, "look 1;".repeat(11) + "fit plank", 0);
        c.is("promise 12: the 12th line lets", y.why(0, 0, 0), 11);
    }

    /** Promise 12: a NUMBER has 1 to 5 digits; look 0 to 100, chip 0 to 1000. */
    private static void promise12Numbers() {
        String[] right = {"look 0", "look 100", "look 00100", "chip 0", "chip 1000", "chip 01000", "owe 0", "owe 99999",
            "owe 00000", "fit plank if dry < 0", "fit plank if dry > 99999", "fit plank if dry > 00009"};
        for (String text : right) {
            faulty(text, OakYard.NONE);
        }
        String[] wrong = {"look 101", "look 999", "look 99999", "look 000000", "look 000100", "chip 1001", "chip 9999",
            "chip 001000", "owe 100000", "owe 000001", "owe 4294967296", "owe 99999999999999999999"};
        for (String text : wrong) {
            faulty(text, text.indexOf(' ') + 1);
        }
        faulty("fit plank if age < 100000", 19);
        faulty("fit plank if age > 000000", 19);
        faulty("owe 12345 6", 10);
    }

    private static void faulty(String text, int due) {
        c.is("promise 12: fault of '" + text + "'", Check.fault(text), due);
    }

    /** Promise 12: ( and not within one another at most 6 deep; the 7th is the first wrong byte. */
    private static void promise12Deep() {
        String[] opens = {"(", "not "};
        for (int mix = 0; mix < 64; mix++) {
            StringBuilder open = new StringBuilder("fit plank if ");
            int brackets = 0;
            for (int n = 0; n < 6; n++) {
                open.append(opens[mix >> n & 1]);
                brackets += 1 - (mix >> n & 1);
            }
            faulty(open + "oak" + ")".repeat(brackets), OakYard.NONE);
            faulty(open + "(oak)" + ")".repeat(brackets), open.length());
            faulty(open + "not oak" + ")".repeat(brackets), open.length());
        }
        faulty("fit plank if not not not not not not oak and not not not not not not elm", OakYard.NONE);
        faulty("fit plank if ((((((oak)))))) or ((((((elm))))))", OakYard.NONE);
        faulty("fit plank if ((((((oak or not elm))))))", 26);
        faulty("fit plank if (((((not oak or not elm)))))", OakYard.NONE);
        faulty("fit plank if (((((oak))))) or (((((((elm)))))))", 36);
        faulty("fit plank if ((((((oak))))) or elm", 34);
        faulty("fit plank if ((((((oak)))))))", 28);
    }

    /** Promise 12: words are as long as a to z go on. */
    private static void promise12Words() {
        faulty("fitplank", 0);
        faulty("fit plankif oak", 4);
        faulty("fit plank if oakand elm", 13);
        faulty("fit plank if oak andelm", 17);
        faulty("fit plank if notoak", 13);
        faulty("fit plank if not(oak)", OakYard.NONE);
        faulty("chip9", OakYard.NONE);
        faulty("chip9if gangs>1and hired;look1", OakYard.NONE);
        faulty("chip 9iff oak", 6);
        faulty("fit plank if dry5", 16);
        faulty("fit plank if dry<5oak", 18);
        faulty("fit plank if oakz", 13);
        faulty("fit plank if aoak", 13);
        faulty("{it plank", 0);
        faulty("`it plank", 0);
        faulty("fit plankZ", 9);
        faulty("fit plan", 4);
        faulty("fit ropes", 4);
        faulty("fi", 0);
        faulty("owe/5", 3);
        faulty("owe :", 4);
    }

    /** Promise 12: between all there may be blanks (32), also ahead and behind; nothing else is a blank. */
    private static void promise12Blanks() {
        faulty("   fit   plank   if   (   not   oak   )   or   dry   <   5   ;   look   9   ", OakYard.NONE);
        faulty("fit plank if(not oak)or dry<5;look 9", OakYard.NONE);
        for (int sign : new int[] {0, 9, 10, 13, 31, 33, 160, 255}) {
            faulty("fit" + (char) sign + "plank", 3);
            faulty((char) sign + "fit plank", 0);
            faulty("fit plank" + (char) sign, 9);
        }
        faulty("fit plank if dry < 1 2", 21);
        faulty("lo ok 1", 0);
    }

    /** Promise 12: the first wrong byte is the text's length, blanks behind too, if more must come. */
    private static void promise12MoreMustCome() {
        String[] begun = {"fit", "chip", "owe", "look", "fit plank;", "fit plank if", "fit plank if not", "fit plank if (",
            "fit plank if (oak", "fit plank if oak and", "fit plank if oak or", "fit plank if dry", "fit plank if dry <",
            "fit plank if not (oak or", "look 1;"};
        for (String text : begun) {
            faulty(text, text.length());
            faulty(text + "  ", text.length() + 2);
            faulty("  " + text, text.length() + 2);
            if (!text.endsWith("<")) {
                faulty(text + "<", text.endsWith("dry") ? text.length() + 1 : text.length());
            }
        }
        String most = "fit plank if" + " ".repeat(388);
        faulty(most, 400);
    }

    /** Promise 12: the first wrong byte stays the first, whatever is wrong behind it. */
    private static void promise12TheFirstOfSeveral() {
        String[] wrong = {"and", "or", ")", ";", "<", "if", "5", "x", "and and", "or or", "and 5", "or (", ") )", "; ;",
            "; fit", "and not", "or not and", "fit", "look 1; x", "if if"};
        for (String behind : wrong) {
            faulty("fit plank if not " + behind, 17);
            faulty("fit plank if not (" + behind, 18);
            faulty("fit plank if oak or " + behind, 20);
            faulty("fit plank if oak and " + behind, 21);
            faulty("fit plank if ((elm) and " + behind, 24);
            faulty("fit plank if dry < " + (behind.startsWith("5") ? "" : behind), 19);
            faulty("fit " + behind, 4);
        }
        faulty("fit x; fit y", 4);
        faulty("look 101; look 102", 5);
        faulty("look 1 look 2; look 3 look 4", 7);
        faulty("x; fit plank if", 0);
    }

    /** Promise 13: of the latest text that was read; NONE without one wrong byte, and ahead of any text. */
    private static void promise13Faults() {
        OakYard y = new OakYard();
        c.is("promise 13: ahead of any", y.fault(), OakYard.NONE);
        y.ship(5, 0, false);
        Check.type(y, "?");
        c.refusesNumber("promise 13: a text of a wrong day", () -> y.warrant(-1));
        c.is("promise 13: it was not read", y.fault(), OakYard.NONE);
        Check.type(y, "look 1 x");
        c.is("promise 13: first wrong byte 7", faultOf(y), 7);
        Check.type(y, "x");
        c.is("promise 13: first wrong byte 0", faultOf(y), 0);
        Check.type(y, "look 1;");
        c.is("promise 13: the text's length", faultOf(y), 7);
        Check.type(y, "x");
        c.refusesIndex("promise 13: beside of no ship", () -> y.beside(1, false));
        c.is("promise 13: that was not read", y.fault(), 7);
        Check.warrant(y, "look 1", 0);
        c.is("promise 13: a right text", y.fault(), OakYard.NONE);
        Check.type(y, "fit");
        c.refusesNumber("promise 13: beside with a wrong text", () -> y.beside(0, false));
        c.is("promise 13: of that text", y.fault(), 3);
        Check.type(y, "");
        y.beside(0, false);
        c.is("promise 13: a right text beside", y.fault(), OakYard.NONE);
        rich.leaves("promise 13: asked twice", x -> c.is("promise 13: twice", x.fault() == 7 && x.fault() == 7, true));
    }

    /** Promises 14 and 15: there is no such PIECE or SHIP. */
    private static void promise14NoSuchPieceOrShip() {
        rich.indices("promise 14: PIECE", 15, (y, n) -> y.may(n, 0, 116));
        rich.indices("promise 14: SHIP", 7, (y, n) -> y.may(0, n, 116));
        rich.indices("promise 15: PIECE", 15, (y, n) -> y.why(n, 0, 116));
        rich.indices("promise 15: SHIP", 7, (y, n) -> y.why(0, n, 116));
        rich.leaves("promise 14: asking", y -> y.may(2, 1, 116));
    }

    /** Promise 14: the text of the latest DAY up to the one asked, of several the last that came; none ahead of any. */
    private static void promise14Days() {
        OakYard y = new OakYard();
        y.buy(0, 0, 10, 10, 0);
        y.ship(5, 0, false);
        Check.warrant(y, "look 1; look 1; fit plank", 20);
        Check.warrant(y, "fit plank", 10);
        Check.warrant(y, "look 1; fit plank", 10);
        Check.warrant(y, "", 4000);
        int[][] due = {{Integer.MIN_VALUE, -1}, {-1, -1}, {0, -1}, {9, -1}, {10, 1}, {11, 1}, {19, 1}, {20, 2}, {3999, 2},
            {4000, -1}, {4001, -1}, {Integer.MAX_VALUE, -1}};
        for (int[] day : due) {
            c.is("promise 15: of day " + day[0], y.why(0, 0, day[0]), day[1]);
            c.is("promise 14: of day " + day[0], y.may(0, 0, day[0]), day[1] >= 0);
        }
        y.days(30);
        c.is("promise 14: a day that is over", y.why(0, 0, 10), 1);
        c.is("promise 14: ahead of any", y.may(0, 0, 9), false);
    }

    /** Promise 14: < and > at the very number, of each FACT (of piece 2 for ship 1). */
    private static void promise14Facts() {
        String[] facts = {"dry", "rot", "thick", "long", "age", "gangs"};
        int[] values = {13, 1, 20, 47, 116, 2};
        for (int n = 0; n < facts.length; n++) {
            lets(facts[n] + "<" + values[n], false);
            lets(facts[n] + "<" + (values[n] + 1), true);
            lets(facts[n] + ">" + values[n], false);
            lets(facts[n] + ">" + (values[n] - 1), true);
            lets(facts[n] + "<99999", true);
            lets(facts[n] + ">99999", false);
            lets(facts[n] + "<0", false);
        }
        OakYard y = new OakYard();
        y.buy(0, 0, 10, 10, 0);
        y.ship(5, 0, false);
        for (String fact : new String[] {"dry", "rot", "age", "gangs"}) {
            Check.warrant(y, "fit plank if " + fact + " > 0 or " + fact + " < 0", 0);
            c.is("promise 14: " + fact + " of 0", y.may(0, 0, 0), false);
        }
    }

    /** Promise 14: of a later DAY, and of one that is over, the numbers are as they are now. */
    private static void promise14NumbersAsTheyAreNow() {
        OakYard y = new OakYard();
        y.buy(0, 0, 10, 10, 0);
        y.shed(0);
        y.ship(5, 0, false);
        y.gang(1);
        Check.warrant(y, "fit plank if age > 7 and dry > 7 and gangs > 0", 0);
        Check.warrant(y, "fit plank if age < 8 and dry < 8 and gangs < 1", 4000);
        y.days(7);
        c.is("promise 14: DAY 0 on day 7", y.may(0, 0, 0), false);
        c.is("promise 14: DAY 4000 on day 7", y.may(0, 0, 4000), true);
        y.days(1);
        c.is("promise 14: DAY 4000 on day 8", y.may(0, 0, 4000), false);
        c.is("promise 14: DAY 0 on day 8, without a GANG", y.may(0, 0, 0), false);
        y.works(0, 0);
        c.is("promise 14: DAY 0 on day 8, with a GANG", y.may(0, 0, 0), true);
    }

    private static void lets(String condition, boolean due) {
        OakYard y = Yards.rich();
        y.end(0);
        Check.warrant(y, "fit plank if " + condition, 116);
        c.is("promise 14: " + condition, y.may(2, 1, 116), due);
    }

    /** Promise 14: a SORT each, none of a ROPE; hired of the SHIP; seen since it was LOOKED at, and not ahead of it. */
    private static void promise14Tags() {
        OakYard y = new OakYard();
        Check.warrant(y, "fit plank if oak; fit plank if elm; fit plank if fir", 0);
        Check.warrant(y, "fit rope if oak or elm or fir; fit rope", 1);
        Check.warrant(y, "fit plank if not seen; fit plank if seen", 2);
        Check.warrant(y, "fit plank if hired; fit plank if not hired", 3);
        for (int sort = 0; sort <= 2; sort++) {
            y.buy(0, sort, 10, 10, 0);
        }
        y.buy(3, 0, 10, 10, 0);
        y.ship(5, 0, true);
        y.ship(5, 0, false);
        for (int sort = 0; sort <= 2; sort++) {
            c.is("promise 14: SORT " + sort, y.why(sort, 0, 0), sort);
        }
        c.is("promise 14: a ROPE has no SORT", y.why(3, 0, 1), 1);
        c.is("promise 14: ahead of a look", y.why(0, 0, 2), 0);
        y.look(0);
        c.is("promise 14: LOOKED at, though it shows 0", y.why(0, 0, 2), 1);
        c.is("promise 14: another one", y.why(1, 0, 2), 0);
        c.is("promise 14: a contractor's", y.why(0, 0, 3), 0);
        c.is("promise 14: not a contractor's", y.why(0, 1, 3), 1);
    }

    /** Promise 14: not of its ATOM alone, and ahead of or, as many as there are; for all ways in which three may hold. */
    private static void promise14AndOrNot() {
        String[] texts = {"hired or oak and seen", "not hired or oak and seen", "hired and not oak or seen",
            "not (hired or oak) and seen", "not not hired and (oak or not seen)", "hired and oak and seen or hired and not oak",
            "(hired or (oak or (seen))) and not (hired and oak and seen)", "hired or oak or seen or hired",
            "not hired and not oak and not seen"};
        for (int way = 0; way < 8; way++) {
            boolean h = (way & 1) > 0;
            boolean o = (way & 2) > 0;
            boolean s = (way & 4) > 0;
            boolean[] due = {h || o && s, !h || o && s, h && !o || s, !(h || o) && s, h && (o || !s), h && o && s || h && !o,
                (h || o || s) && !(h && o && s), h || o || s, !h && !o && !s};
            for (int n = 0; n < texts.length; n++) {
                OakYard y = new OakYard();
                Check.warrant(y, "fit plank if " + texts[n], 0);
                y.buy(0, o ? 0 : 1, 10, 10, 0);
                y.ship(5, 0, h);
                if (s) {
                    y.look(0);
                }
                c.is("promise 14: way " + way + " of " + texts[n], y.may(0, 0, 0), due[n]);
            }
        }
    }

    /** Promise 15: the first LINE that holds, counted with the lines of all kinds from 0 on; NONE. */
    private static void promise15TheFirstLine() {
        OakYard y = new OakYard();
        for (int kind = 0; kind <= 3; kind++) {
            y.buy(kind, 0, 10, 10, 0);
        }
        y.ship(5, 0, false);
        Check.warrant(y, "fit plank; look 1; fit mast if elm; chip 1; fit mast; fit mast; owe 1; fit rope", 0);
        int[] due = {0, OakYard.NONE, 4, 7};
        for (int kind = 0; kind <= 3; kind++) {
            c.is("promise 15: why of kind " + kind, y.why(kind, 0, 0), due[kind]);
        }
    }

    /** Promise 51: no such SHIP is told ahead of a wrong text; both use the tape up and do nothing else. */
    private static void promise51Refusals() {
        for (int ship : new int[] {-1, 7, Integer.MIN_VALUE, Integer.MAX_VALUE}) {
            spending(Yards::rich, RIGHT).index("promise 51: SHIP " + ship, y -> y.beside(ship, true));
            spending(Yards::rich, "?").index("promise 51: a wrong text of SHIP " + ship, y -> y.beside(ship, false));
        }
        spending(Yards::rich, WRONG_AT_7).number("promise 51: a wrong text", y -> y.beside(6, true));
        for (int ship : new int[] {0, 6}) {
            OakYard y = withTape(Yards.rich(), "fit plank");
            c.is("promise 51: SHIP " + ship, y.beside(ship, false), 1);
            c.is("promise 51: the tape is used up", y.end(1), false);
            c.is("promise 51: a right text", y.fault(), OakYard.NONE);
            c.is("promise 51: no warrant comes of it", y.count(16), 2);
        }
    }

    /** Promise 51: PIECES in the shed alone (2 and 10 MAY now, 6, 8 and 9 not); more, or fewer; an empty text. */
    private static void promise51Texts() {
        String[] texts = {"", "fit plank", "fit plank if oak", "fit plank if elm", "fit mast; fit rope",
            "fit plank; fit mast; fit rope; fit knee", "fit plank if seen", "fit plank if long > 33; fit mast if long > 50"};
        int[] more = {0, 1, 0, 1, 2, 3, 0, 1};
        int[] fewer = {2, 0, 0, 2, 2, 0, 1, 1};
        for (int n = 0; n < texts.length; n++) {
            c.is("promise 51: '" + texts[n] + "' lets more", withTape(Yards.rich(), texts[n]).beside(1, false), more[n]);
            c.is("promise 51: '" + texts[n] + "' lets fewer", withTape(Yards.rich(), texts[n]).beside(1, true), fewer[n]);
        }
    }
}
