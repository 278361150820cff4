import java.io.IOException;
import java.util.HashMap;
import java.util.Map;
import java.util.NoSuchElementException;
import java.util.Set;
import java.util.TreeSet;


/** What the classes share that show the document sentence by sentence. DocumentTest runs them. */
abstract class Edges {
    static final Class<IndexOutOfBoundsException> OUT = IndexOutOfBoundsException.class;
    static final Class<IllegalArgumentException> ILLEGAL = IllegalArgumentException.class;
    static final Class<IllegalStateException> STATE = IllegalStateException.class;
    static final Class<NoSuchElementException> NONE = NoSuchElementException.class;
    static final Class<UnsupportedOperationException> REJECTED = UnsupportedOperationException.class;
    static final Class<ArithmeticException> NO_NUMBER = ArithmeticException.class;

    /** A call, or several of them, on an exchange. */
    interface Act {
        Object on(BarnacleExchange x);
    }

    /** A call with one argument. */
    interface Numbered {
        Object on(BarnacleExchange x, int number);
    }

    private static final Map<Picture.Scene, Picture> PICTURES = new HashMap<>();
    private static Sentences sentences = null;
    private static int promise = 0;
    private static String label = "";

    /** Reads the document, whose sentences are to be shown. */
    static void open() throws IOException {
        sentences = new Sentences();
    }

    /** Ends the test: it fails if a sentence of the document was shown by no test. */
    static void close() {
        Check.is(0, "the document has sentences", true, () -> sentences.count() > 250);
        Check.is(0, "sentences that no test shows", Set.of(), sentences::notShown);
        Check.end("DocumentTest", 0, 63);
    }

    /** The test of one sentence of a promise, or of the terms if the promise is 0. */
    static void shows(int number, String sentence, Runnable calls) {
        promise = number;
        label = "\"" + sentence + "\": ";
        Check.is(number, label + "it stands in the document", true, () -> sentences.show(number, sentence));
        int before = Check.count();
        // A call that was to prepare the test may throw, too: then this sentence is not shown, but the next ones can be.
        Check.is(number, label + "its calls end", true, () -> {
            calls.run();
            return true;
        });
        Check.is(number, label + "a call shows it", true, () -> Check.count() > before + 1);
    }

    static void is(String what, Object want, Check.Call call) {
        Check.is(promise, label + what, want, call);
    }

    static void fails(String what, Class<? extends RuntimeException> want, Check.Call call) {
        Check.fails(promise, label + what, want, call);
    }

    static void rejects(String what, BarnacleExchange x, int reason, int detail, Check.Call call) {
        Check.rejects(promise, label + what, x, reason, detail, call);
    }

    static void rejects(String what, Picture.Scene scene, int reason, int detail, Act act) {
        BarnacleExchange x = scene.make();
        rejects(what, x, reason, detail, () -> act.on(x));
    }

    /** The act must throw this exception, and the exchange must be the same as before, but for these parts of it. */
    static void refused(String what, Class<? extends RuntimeException> want, Picture.Scene scene, Act act,
            String... changed) {
        fails(what, want, () -> act.on(scene.make()));
        changes(what, scene, act, changed);
    }

    /** The act must change these parts of the exchange, each of them, and no others. */
    static void changes(String what, Picture.Scene scene, Act act, String... changed) {
        Picture before = PICTURES.computeIfAbsent(scene, Picture::new);
        is(what + ", what it changes", new TreeSet<>(Set.of(changed)),
                () -> before.differences(new Picture(() -> after(scene, act))));
    }

    /** The exchange of the scene after an act, whether this throws or not. */
    static BarnacleExchange after(Picture.Scene scene, Act act) {
        BarnacleExchange x = scene.make();
        Check.answerOf(() -> act.on(x));
        return x;
    }

    /**
     * The test of the sentence on an argument that has a range. The act passes a value and returns what the exchange
     * then says of it.
     */
    static void range(int number, String sentence, int least, int greatest, Picture.Scene scene, Numbered act) {
        shows(number, sentence, () -> {
            for (int value : new int[] {least, least + 1, greatest - 1, greatest}) {
                is("value " + value, value, () -> act.on(scene.make(), value));
            }
            for (int value : new int[] {least - 1, greatest + 1, least + 256, least + 65536, Integer.MIN_VALUE,
                Integer.MAX_VALUE}) {
                refused("value " + value, ILLEGAL, scene, x -> act.on(x, value));
            }
        });
    }
}
