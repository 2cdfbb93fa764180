/** Promises 2, 3, 12 and 13: the tape, the grammar of warrants, and the first wrong byte. */
final class TapeAndTextsTest {
    private static final Check c = new Check();

    public static void main(String[] args) {
        tape();
        warrants();
        rightTexts();
        wrongTexts();
        depths();
        lines();
        faults();
        c.end();
    }

    private static void tape() {
        OakYard y = new OakYard();
        c.is("end(0) of an empty tape", y.end(0), true);
        c.is("end(1) of an empty tape", y.end(1), false);
        c.is("end(-1)", y.end(-1), false);
        for (int n = 1; n <= 20; n++) {
            c.is("feed", y.feed(-1, 2, 3, 4, 5), 20 * n);
        }
        c.is("feed beyond 400", y.feed(1, 2, 3, 4, 5), OakYard.NONE);
        c.is("end(401)", y.end(401), false);
        c.is("end(400)", y.end(400), true);
        c.is("end(381)", y.end(381), true);
        c.is("feed beyond 400 by one", y.feed(1, 2, 3, 4, 5), OakYard.NONE);
        c.is("end(380)", y.end(380), true);
        c.is("feed up to 400", y.feed(1, 2, 3, 4, 5), 400);
        c.is("end(0)", y.end(0), true);
        c.is("a tape without bytes is a text without lines", y.warrant(0), 0);
        c.is("the highest byte comes first", y.feed(0x6c6f6f6b, 0x20390000, 0, 0, 0), 20);
        y.end(6);
        c.is("look 9", y.warrant(0), 1);
        c.is("the tape is used up", y.end(1), false);
    }

    private static void warrants() {
        OakYard y = new OakYard();
        y.days(5);
        Check.type(y, "look 1");
        c.refusesNumber("a warrant from yesterday on", () -> y.warrant(4));
        c.is("the tape is used up", y.end(1), false);
        c.refusesNumber("a warrant from day 4001 on", () -> y.warrant(4001));
        c.is("no text was read", y.fault(), OakYard.NONE);
        Check.type(y, "look 1 x");
        c.refusesNumber("a wrong text", () -> y.warrant(5));
        c.is("its fault", y.fault(), 7);
        c.is("the tape is used up", y.end(1), false);
        Check.type(y, "?");
        c.refusesNumber("a wrong text from yesterday on", () -> y.warrant(4));
        c.is("it was not read", y.fault(), 7);
        c.is("lines", Check.warrant(y, "look 1; look 2", 4000), 2);
        c.is("a right text has no fault", y.fault(), OakYard.NONE);
        c.is("warrants", y.count(16), 1);
        for (int n = 0; n < 9; n++) {
            c.is("lines", Check.warrant(y, "fit knee", 5 + n), 1);
        }
        Check.type(y, "look 1 x");
        c.refusesNumber("a wrong 11th text", () -> y.warrant(5));
        Check.type(y, "look 1");
        c.refusesMore("an 11th text", () -> y.warrant(5));
        c.is("the tape is used up", y.end(1), false);
        c.is("warrants", y.count(16), 10);
    }

    private static void rightTexts() {
        String[] right = {"", "   ", "fit plank", " fit  knee ", "fit mast;fit rope", "chip 0", "chip 1000", "owe 99999",
            "owe 0", "look 0", "look 100", "look00100", "chip 5if oak", "fit plank if dry<5and rot>7or(oak)",
            "fit plank if not oak and not elm or fir", "fit plank if not(not(oak))and hired and seen",
            "owe 00001 if age>99999;look 1", "fit rope if thick < 1 and long > 2 or gangs > 3",
            "fit plank if ( oak or elm ) and ( fir or ( seen ) )"};
        for (String text : right) {
            c.is("fault of '" + text + "'", Check.fault(text), OakYard.NONE);
        }
    }

    private static void wrongTexts() {
        faulty("fit", 3);
        faulty("fit ", 4);
        faulty("; fit plank", 0);
        faulty("fit plank;", 10);
        faulty("fit plank; ", 11);
        faulty("fit plank;;look 1", 10);
        faulty("fits plank", 0);
        faulty("fitplank", 0);
        faulty("fi plank", 0);
        faulty("fit planks", 4);
        faulty("fit plank knee", 10);
        faulty("fit plank iff oak", 10);
        faulty("fit plank if", 12);
        faulty("fit plank if ;", 13);
        faulty("fit plank ifoak", 10);
        faulty("fit plank if oak elm", 17);
        faulty("fit plank if oak or", 19);
        faulty("fit plank if oak and and elm", 21);
        faulty("fit plank if or", 13);
        faulty("fit plank if not", 16);
        faulty("fit plank if not not", 20);
        faulty("fit plank if (oak", 17);
        faulty("fit plank if (oak;", 17);
        faulty("fit plank if oak)", 16);
        faulty("fit plank if ()", 14);
        faulty("fit plank if dry", 16);
        faulty("fit plank if dry = 5", 17);
        faulty("fit plank if dry <", 18);
        faulty("fit plank if dry < oak", 19);
        faulty("fit plank if dry < 123456", 19);
        faulty("fit plank if dry < 000001", 19);
        faulty("fit plank if dry << 1", 18);
        faulty("fit plank if oak < 1", 17);
        faulty("fit plank if work > 1", 13);
        faulty("Fit plank", 0);
        faulty("fit Plank", 4);
        faulty("fit plank if oak\tor elm", 16);
        faulty("fit plank if oak\u00e9", 16);
        faulty("fit 5", 4);
        faulty("look plank", 5);
        faulty("look", 4);
        faulty("look 101", 5);
        faulty("look 99999", 5);
        faulty("look 000100", 5);
        faulty("look 5 if oak", 7);
        faulty("look 5 5", 7);
        faulty("chip 1001 if oak", 5);
        faulty("owe 100000", 4);
        faulty("owe 5 5", 6);
        faulty("owe -5", 4);
        faulty("plank", 0);
        faulty("if oak", 0);
        faulty("5", 0);
    }

    private static void faulty(String text, int due) {
        c.is("fault of '" + text + "'", Check.fault(text), due);
    }

    private static void depths() {
        c.is("six not", Check.fault("fit plank if not not not not not not oak"), OakYard.NONE);
        c.is("seven not", Check.fault("fit plank if not not not not not not not oak"), 37);
        c.is("six (", Check.fault("fit plank if ((((((oak))))))"), OakYard.NONE);
        c.is("seven (", Check.fault("fit plank if (((((((oak)))))))"), 19);
        c.is("both, six deep", Check.fault("fit plank if not(not(not(oak)))and not(not(not(oak)))"), OakYard.NONE);
        c.is("both, seven deep", Check.fault("fit plank if not(not(not(not oak)))"), 25);
        c.is("not and ( in turn", Check.fault("fit plank if (oak and ((((not not oak)))))"), 30);
    }

    private static void lines() {
        StringBuilder text = new StringBuilder("look 1");
        for (int n = 1; n < 12; n++) {
            text.append(";look 1");
        }
        c.is("12 lines", Check.warrant(new OakYard(), text.toString(), 0), 12);
        c.is("12 lines and a ;", Check.fault(text + "; "), text.length() + 2);
        c.is("13 lines", Check.fault(text + "; look 1"), text.length() + 2);
        c.is("a wrong word in a 13th line", Check.fault(text + ";x"), text.length() + 1);
        c.is("no ; behind the 12th", Check.fault(text + " look"), text.length() + 1);
    }

    private static void faults() {
        OakYard y = new OakYard();
        y.ship(1, 0, false);
        Check.type(y, "fit plank if");
        c.refusesNumber("beside with a wrong text", () -> y.beside(0, true));
        c.is("its fault", y.fault(), 12);
        Check.type(y, "fit");
        c.refusesIndex("beside of no ship", () -> y.beside(1, true));
        c.is("that text was not read", y.fault(), 12);
        c.is("but the tape is used up", y.end(1), false);
        y.keep();
        c.is("beside with an empty text", y.beside(0, true), 0);
        c.is("no fault", y.fault(), OakYard.NONE);
        Check.type(y, "look");
        y.back();
        c.is("the image leaves fault() as it is", y.fault(), OakYard.NONE);
        c.is("and the tape", y.end(4), true);
    }
}
