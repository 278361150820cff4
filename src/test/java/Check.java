import java.util.Objects;
import java.util.TreeSet;

/** What the tests of the promises share: they say which promise a call shows and what it must answer. */
final class Check {
    /** A call that answers a value or throws. */
    interface Call {
        Object answer();
    }

    private static final TreeSet<Integer> SHOWN = new TreeSet<>();
    private static int right = 0;
    private static int wrong = 0;

    private Check() {
    }

    /** The number of answers so far. */
    static int count() {
        return right + wrong;
    }

    /** The call must answer this value. */
    static void is(int promise, String what, Object want, Call call) {
        judge(promise, what, want, answerOf(call));
    }

    /** The call must throw an exception of exactly this class. */
    static void fails(int promise, String what, Class<? extends RuntimeException> want, Call call) {
        judge(promise, what, thrown(want), answerOf(call));
    }

    /** The call must be rejected with this reason and this detail. */
    static void rejects(int promise, String what, BarnacleExchange x, int reason, int detail, Call call) {
        fails(promise, what, UnsupportedOperationException.class, call);
        is(58, what + ": the reason", reason, x::rejectionReason);
        is(59, what + ": the detail", detail, x::rejectionDetail);
    }

    /** Appends all characters of a text to the input. */
    static void type(BarnacleExchange x, String text) {
        for (int i = 0; i < text.length(); i++) {
            x.appendInput(text.charAt(i));
        }
    }

    /** Appends a text to the input and executes it. */
    static Object run(BarnacleExchange x, String text) {
        type(x, text);
        return x.execute();
    }

    /** Reads the output up to a length. */
    static String output(BarnacleExchange x, int length) {
        StringBuilder text = new StringBuilder();
        for (int i = 0; i < length; i++) {
            text.append(x.outputAt(i));
        }
        return text.toString();
    }

    /** Ends a test: it fails if an answer was wrong, or if no call showed one of the promises from first to last. */
    static void end(String name, int first, int last) {
        for (int promise = first; promise <= last; promise++) {
            if (!SHOWN.contains(promise)) {
                wrong++;
                System.out.println(name + ": no call shows promise " + promise);
            }
        }
        System.out.println(name + ": " + right + " answers as due, " + wrong + " not");
        if (wrong > 0) {
            System.exit(1);
        }
    }

    static Object answerOf(Call call) {
        try {
            return call.answer();
        } catch (RuntimeException e) {
            return thrown(e.getClass());
        }
    }

    static void judge(int promise, String what, Object want, Object got) {
        SHOWN.add(promise);
        if (Objects.equals(want, got)) {
            right++;
        } else {
            wrong++;
            System.out.println("promise " + promise + ", " + what + ": answered " + got + ", due is " + want);
        }
    }

    private static String thrown(Class<?> exception) {
        return "throws." + exception.getSimpleName();
    }
}
