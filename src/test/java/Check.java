/** What the tests share: the comparison of answers, and the writing of texts on the page. */
final class Check {
    private static int wrong = 0;
    private static int asked = 0;

    private Check() {
    }

    static void due(String call, long got, long want) {
        asked++;
        if (got != want) {
            wrong++;
            System.out.println(call + " answered " + got + ", due is " + want);
        }
    }

    /** Writes a text on the page; each letter must be taken. */
    static void write(WantPlots x, String text) {
        int length = x.count(1);
        for (int i = 0; i < text.length(); i++) {
            due("letter " + i + " of " + text, x.letter(text.charAt(i)), length + i + 1);
        }
    }

    /** A new object with the world of a text. */
    static WantPlots worldOf(String text) {
        WantPlots x = new WantPlots();
        write(x, text);
        due("fault of " + text, x.fault(), text.length());
        int acts = text.substring(text.indexOf(':')).split(",").length;
        due("world of " + text, x.world(), acts);
        return x;
    }

    /** Ends a test's run: with exit code 1 if an answer was wrong, or nothing was asked. */
    static void end(String test) {
        System.out.println(test + ": " + asked + " answers, " + wrong + " wrong");
        if (wrong != 0 || asked == 0) {
            System.exit(1);
        }
    }
}
