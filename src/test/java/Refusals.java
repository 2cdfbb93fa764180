import java.util.function.Consumer;
import java.util.function.Predicate;
import java.util.function.Supplier;
import java.util.function.ToIntFunction;

/** Calls that a yard refuses: by an exception, by false or by NONE; and that each leaves all as it was. */
final class Refusals {
    private final Check c;
    private final Supplier<OakYard> yards;
    private final String untouched;

    Refusals(Check check, Supplier<OakYard> allAlike) {
        this(check, allAlike, allAlike);
    }

    /** Such as leave a yard like others: with the tape used up, say. */
    Refusals(Check check, Supplier<OakYard> asked, Supplier<OakYard> left) {
        c = check;
        yards = asked;
        untouched = Everything.of(left);
    }

    /** A call with one of its numbers left open. */
    interface Open {
        void call(OakYard y, int n);
    }

    /** The number is taken from the least to the most, and refused as no number just outside and far outside. */
    void numbers(String what, int least, int most, Open call) {
        takes(what, least, most, call);
        for (int n : new int[] {least - 1, most + 1, Integer.MIN_VALUE, Integer.MAX_VALUE}) {
            number(what + ' ' + n, y -> call.call(y, n));
        }
    }

    /** There is such a thing from 0 on, so many, and none just outside and far outside. */
    void indices(String what, int count, Open call) {
        takes(what, 0, count - 1, call);
        noneBeside(what, count, call);
    }

    /** There are so many of such things; the call has no other fault with the first few of them. */
    void indices(String what, int few, int count, Open call) {
        takes(what, 0, few - 1, call);
        noneBeside(what, count, call);
    }

    private void noneBeside(String what, int count, Open call) {
        for (int n : new int[] {-1, count, Integer.MIN_VALUE, Integer.MAX_VALUE}) {
            index(what + ' ' + n, y -> call.call(y, n));
        }
    }

    private void takes(String what, int least, int most, Open call) {
        for (int n : new int[] {least, most}) {
            c.takes(what + ' ' + n, () -> call.call(yards.get(), n));
        }
    }

    void index(String what, Consumer<OakYard> call) {
        refuses(what, IndexOutOfBoundsException.class, call);
    }

    void number(String what, Consumer<OakYard> call) {
        refuses(what, IllegalArgumentException.class, call);
    }

    void more(String what, Consumer<OakYard> call) {
        refuses(what, UnsupportedOperationException.class, call);
    }

    void refuses(String what, Class<? extends RuntimeException> due, Consumer<OakYard> call) {
        c.refuses(what, due, () -> call.accept(yards.get()));
        leaves(what, y -> {
            try {
                call.accept(y);
            } catch (RuntimeException e) {
                // which one it is has been asked
            }
        });
    }

    void no(String what, Predicate<OakYard> call) {
        c.is(what, call.test(yards.get()), false);
        leaves(what, call::test);
    }

    void none(String what, ToIntFunction<OakYard> call) {
        answers(what, OakYard.NONE, call);
    }

    void answers(String what, int due, ToIntFunction<OakYard> call) {
        c.is(what, call.applyAsInt(yards.get()), due);
        leaves(what, call::applyAsInt);
    }

    void leaves(String what, Consumer<OakYard> call) {
        String got = Everything.of(() -> {
            OakYard y = yards.get();
            call.accept(y);
            return y;
        });
        c.is(what + " leaves all as it was", got.equals(untouched), true);
    }
}
