import java.util.function.IntSupplier;
import java.util.function.IntUnaryOperator;

/** What the tests share: the comparison of answers, and the writing of texts on the page. */
final class Check {
    private static int wrong = 0;
    private static int asked = 0;
    private static int sentences = 0;
    private static int askedBefore = 0;
    private static String sentence = "";

    private Check() {
    }

    static void due(String call, long got, long want) {
        asked++;
        if (got != want) {
            wrong++;
            System.out.println(sentence + call + " answered " + got + ", due is " + want);
        }
    }

    /** Begins the test of a sentence of the document: what is asked from now on is asked of it. */
    static void sentence(String place, String words) {
        endSentence();
        sentences++;
        sentence = "[" + place + ": " + words + "] ";
        askedBefore = asked;
    }

    /** A sentence of which nothing was asked has no test. */
    private static void endSentence() {
        if (sentences > 0 && asked == askedBefore) {
            wrong++;
            System.out.println(sentence + "nothing was asked");
        }
    }

    /** Asks a question with the numbers from 0 on, one for each answer that is due. */
    static void row(String call, IntUnaryOperator question, int... want) {
        for (int i = 0; i < want.length; i++) {
            due(call + ", " + i, question.applyAsInt(i), want[i]);
        }
    }

    /** Asks for an error, and whether the call has left all that is told as it was. */
    static void refused(WantPlots x, String call, IntSupplier made, int error) {
        long before = x.digest();
        due(call, made.getAsInt(), error);
        due("digest after " + call, x.digest(), before);
    }

    /** Writes a text on the page; each letter must be taken. */
    static void write(WantPlots x, String text) {
        int length = x.count(1);
        for (int i = 0; i < text.length(); i++) {
            due("letter " + i + " of " + text, x.letter(text.charAt(i)), length + i + 1);
        }
    }

    /** A new object with a text on the page. */
    static WantPlots pageOf(String text) {
        WantPlots x = new WantPlots();
        write(x, text);
        return x;
    }

    /** A new object with the world of a text. */
    static WantPlots worldOf(String text) {
        WantPlots x = pageOf(text);
        due("fault of " + text, x.fault(), text.length());
        int acts = text.substring(text.indexOf(':')).split(",").length;
        due("world of " + text, x.world(), acts);
        return x;
    }

    /** Does acts out of turn, each of which must be done. */
    static void acts(WantPlots x, int... acts) {
        int steps = x.about(2);
        for (int i = 0; i < acts.length; i++) {
            due("act " + acts[i], x.act(acts[i]), steps + i + 1);
        }
    }

    /** Lets fate change facts, each of which must be changed. */
    static void fates(WantPlots x, int... facts) {
        int steps = x.about(2);
        for (int i = 0; i < facts.length; i++) {
            due("fate " + facts[i], x.fate(facts[i]), steps + i + 1);
        }
    }

    /** Does the same act again and again, until there is a number of steps. */
    static void actsUpTo(WantPlots x, int act, int steps) {
        for (int i = x.about(2) + 1; i <= steps; i++) {
            due("act " + act, x.act(act), i);
        }
    }

    /** Ends a test's run: with exit code 1 if an answer was wrong, or nothing was asked. */
    static void end(String test) {
        endSentence();
        String tested = sentences > 0 ? sentences + " sentences, " : "";
        System.out.println(test + ": " + tested + asked + " answers, " + wrong + " wrong");
        if (wrong != 0 || asked == 0) {
            System.exit(1);
        }
    }
}
