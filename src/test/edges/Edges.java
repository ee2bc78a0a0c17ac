import java.util.ArrayList;
import java.util.List;
import java.util.function.Supplier;
import java.util.function.ToLongFunction;

/** Tests of single sentences of the document: each names its promise and the words that it holds to. */
final class Edges {
    /** What was quoted, a row each: the number of the promise, the words. */
    static final List<String[]> QUOTED = new ArrayList<>();
    private static String told = "";
    private static int asked = 0;
    private static int wrong = 0;

    private Edges() {
    }

    static void test(int promise, String words, Runnable body) {
        told = "promise " + promise + ", \"" + words + "\"";
        QUOTED.add(new String[] {String.valueOf(promise), words});
        int before = asked;
        try {
            body.run();
        } catch (RuntimeException | Error thrown) {
            blame("threw " + thrown);
        }
        if (asked == before) {
            blame("tests nothing");
        }
    }

    static void due(String call, long got, long want) {
        asked++;
        if (got != want) {
            blame(call + " answered " + got + ", due is " + want);
        }
    }

    static void due(String call, boolean got, boolean want) {
        due(call, got ? 1 : 0, want ? 1 : 0);
    }

    static void due(String call, String got, String want) {
        asked++;
        if (!got.equals(want)) {
            blame(call + ": " + Looks.difference(got, want));
        }
    }

    static void blame(String what) {
        wrong++;
        System.out.println(told + ": " + what);
    }

    /** A call that answers so and leaves all as it was: whatever can be seen later is as if it had not been. */
    static void still(String call, Supplier<NightCats> made, ToLongFunction<NightCats> ask, long want) {
        for (int way = 0; way < Looks.WAYS; way++) {
            NightCats without = made.get();
            NightCats with = made.get();
            due(call, ask.applyAsLong(with), want);
            due(call + " leaves", Looks.look(with, way), Looks.look(without, way));
        }
    }

    /** The same for an answer that isn't looked at. */
    static void still(String call, Supplier<NightCats> made, ToLongFunction<NightCats> ask) {
        still(call, made, ask, ask.applyAsLong(made.get()));
    }

    /** A text that must be without a fault rules. */
    static void rule(NightCats x, String laws) {
        int text = Due.read(x, laws);
        if (text < 0) {
            blame("a fault in " + laws);
        }
        x.by(text);
    }

    static long one(boolean answer) {
        return answer ? 1 : 0;
    }

    static void close() {
        System.out.println(wrong == 0 ? QUOTED.size() + " edges hold, " + asked + " answers" : wrong + " of " + asked + " answers are not as due");
        if (wrong != 0) {
            System.exit(1);
        }
    }
}
