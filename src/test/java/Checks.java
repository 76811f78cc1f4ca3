import java.util.TreeSet;
import java.util.function.BooleanSupplier;
import java.util.function.IntToLongFunction;
import java.util.function.LongSupplier;

/** Counts the answers that are due and those that are not, and which promises were looked at. */
final class Checks {
    /** Stands for an IndexOutOfBoundsException where an answer is compared. */
    static final long THROWS = Long.MIN_VALUE;

    private static final int MAX_SHOWN = 40;
    private static final TreeSet<Integer> promises = new TreeSet<>();
    private static final TreeSet<Integer> promisesWithBoundaries = new TreeSet<>();
    private static int passed = 0;
    private static int failed = 0;
    private static int promiseAt = 0;
    private static String sentence = "";
    private static int checksOfSentence = 1;

    private Checks() {
    }

    static void due(int promise, String call, long want, LongSupplier got) {
        promises.add(promise);
        check("promise " + promise + ": " + call, want, answerOf(got));
    }

    static void due(int promise, String call, boolean want, BooleanSupplier got) {
        due(promise, call, want ? 1 : 0, () -> got.getAsBoolean() ? 1 : 0);
    }

    /** The checks that follow without a promise's number are of this sentence, which names a boundary case. */
    static void says(int promise, String text) {
        endSentence();
        promisesWithBoundaries.add(promise);
        promiseAt = promise;
        sentence = text;
        checksOfSentence = 0;
    }

    /** A sentence without a check is a mistake of the test. */
    static void endSentence() {
        if (checksOfSentence == 0) {
            check("a check of promise " + promiseAt + ", '" + sentence + "'", 1, 0);
        }
    }

    static void due(String call, long want, LongSupplier got) {
        checksOfSentence++;
        due(promiseAt, "'" + sentence + "', " + call, want, got);
    }

    static void due(String call, boolean want, BooleanSupplier got) {
        due(call, want ? 1 : 0, () -> got.getAsBoolean() ? 1 : 0);
    }

    /** One answer for each argument. */
    static void dueAt(String call, int[] arguments, long[] want, IntToLongFunction got) {
        check("answers for '" + sentence + "'", arguments.length, want.length);
        for (int k = 0; k < arguments.length; k++) {
            int argument = arguments[k];
            due(call + " at " + argument, want[k], () -> got.applyAsLong(argument));
        }
    }

    /** The same answer for all arguments. */
    static void dueForAll(String call, int[] arguments, long want, IntToLongFunction got) {
        for (int argument : arguments) {
            due(call + " at " + argument, want, () -> got.applyAsLong(argument));
        }
    }

    /** The answers of one kind of call on a row of objects of a promise's own. */
    static void dueRow(int promise, String call, long[] want, IntToLongFunction got) {
        for (int k = 0; k < want.length; k++) {
            int index = k;
            due(promise, call + " no. " + k, want[k], () -> got.applyAsLong(index));
        }
    }

    static void check(String what, long want, long got) {
        if (want == got) {
            passed++;
        } else {
            failed++;
            if (failed <= MAX_SHOWN) {
                System.out.println(what + " answered " + shown(got) + ", due is " + shown(want));
            }
        }
    }

    private static long answerOf(LongSupplier got) {
        try {
            return got.getAsLong();
        } catch (IndexOutOfBoundsException e) {
            // The machine's own kinds of it are classes below it.
            return e.getClass() == IndexOutOfBoundsException.class ? THROWS : THROWS + 1;
        }
    }

    private static String shown(long answer) {
        return answer == THROWS ? "throws.IndexOutOfBoundsException" : Long.toString(answer);
    }

    static void requireAllPromises(int count) {
        endSentence();
        for (int promise = 1; promise <= count; promise++) {
            check("a test of promise " + promise, 1, promises.contains(promise) ? 1 : 0);
            check("a boundary of promise " + promise, 1, promisesWithBoundaries.contains(promise) ? 1 : 0);
        }
    }

    static int passed() {
        return passed;
    }

    static int failed() {
        return failed;
    }
}
