/** What the tests share: answers that are due, exceptions that are due, and texts for the tape. */
final class Check {
    private int asked = 0;
    private int wrong = 0;

    /** A call that may throw. */
    interface Call {
        void run();
    }

    void is(String what, long got, long due) {
        asked++;
        if (got != due) {
            wrong++;
            System.out.println(what + " answered " + got + ", due is " + due);
        }
    }

    void is(String what, boolean got, boolean due) {
        is(what, got ? 1 : 0, due ? 1 : 0);
    }

    void refuses(String what, Class<? extends RuntimeException> due, Call call) {
        throwsWhat(what, due.getSimpleName(), call);
    }

    void takes(String what, Call call) {
        throwsWhat(what, "nothing", call);
    }

    private void throwsWhat(String what, String due, Call call) {
        asked++;
        String got = "nothing";
        try {
            call.run();
        } catch (RuntimeException e) {
            got = e.getClass().getSimpleName();
        }
        if (!got.equals(due)) {
            wrong++;
            System.out.println(what + " throws " + got + ", due is " + due);
        }
    }

    void refusesIndex(String what, Call call) {
        refuses(what, IndexOutOfBoundsException.class, call);
    }

    void refusesNumber(String what, Call call) {
        refuses(what, IllegalArgumentException.class, call);
    }

    void refusesMore(String what, Call call) {
        refuses(what, UnsupportedOperationException.class, call);
    }

    void end() {
        System.out.println(asked - wrong + " of " + asked + " answers are as due");
        if (wrong > 0 || asked == 0) {
            System.exit(1);
        }
    }

    /** Puts a text on the tape, behind what is there. */
    static void type(OakYard yard, String text) {
        int rest = text.length() % 20;
        int length = 0;
        for (int at = 0; at < text.length(); at += 20) {
            length = yard.feed(four(text, at), four(text, at + 4), four(text, at + 8), four(text, at + 12),
                    four(text, at + 16));
        }
        if (rest > 0 && !yard.end(length - 20 + rest)) {
            throw new IllegalStateException("the tape is shorter than the text");
        }
    }

    static int warrant(OakYard yard, String text, int day) {
        type(yard, text);
        return yard.warrant(day);
    }

    /** The fault of a text; NONE if it is right. */
    static int fault(String text) {
        OakYard yard = new OakYard();
        try {
            warrant(yard, text, 0);
        } catch (IllegalArgumentException e) {
            return yard.fault() == OakYard.NONE ? -2 : yard.fault();
        }
        return yard.fault();
    }

    private static int four(String text, int at) {
        int number = 0;
        for (int n = at; n < at + 4; n++) {
            number = number << 8 | (n < text.length() ? text.charAt(n) & 255 : 0);
        }
        return number;
    }
}
