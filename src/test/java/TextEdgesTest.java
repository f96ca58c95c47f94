/**
 * The boundary cases of texts, sentence by sentence: the part of the description that tells what a
 * world's text is, and promises 1 to 5. Each method tests one sentence, whose words it names.
 */
public final class TextEdgesTest {
    private static final String WHOLE = "abcdefgh";
    /** With five signs before it, and nine behind, this fills the page. */
    private static final String FOUR_ACTS =
            "0abcdefgh>abcdefgh,0abcdefgh>abcdefgh,0abcdefgh>abcdefgh,0abcdefgh>abcdefgh,";
    private static final String LONGEST = "p+a;:" + FOUR_ACTS + "0abcd-e>f";

    public static void main(String[] args) {
        newObject();
        codeAtLeast32();
        codeAtMost126();
        codeOutOfRangeOnAFullPage();
        lengthAfterwards();
        fullPage();
        blankEmpties();
        blankTellsTheLength();
        faultOfNoFault();
        faultPositionFromZero();
        faultOfTheFirst();
        worldInPlaceOfTheOther();
        worldBeginsAStory();
        worldTellsTheActs();
        worldRefused();
        pageOf90();
        oneToFourCharacters();
        oneToTenActs();
        withoutBlanks();
        kinds();
        goalSigns();
        goalFacts();
        characterCommas();
        firstFacts();
        colon();
        owners();
        needsTrue();
        needsFalse();
        makesTrue();
        makesFalse();
        actCommas();
        ascending();
        noneTwice();
        notNeededBothWays();
        notMadeBothWays();
        neededAndMade();
        makesAtLeastOne();
        Check.end("TextEdgesTest");
    }

    /** Exactly these signs lead on from a beginning; any other one is a fault. */
    private static void goesOn(String beginning, String signs) {
        for (int code = 32; code <= 126; code++) {
            WantPlots x = Check.pageOf(beginning);
            x.letter(code);
            int fits = signs.indexOf(code) >= 0 ? 1 : 0;
            Check.due("fault of " + beginning + (char) code, x.fault(), beginning.length() + fits);
        }
    }

    private static void fault(String text, int position) {
        Check.due("fault of " + text, Check.pageOf(text).fault(), position);
    }

    private static void complete(String text, int acts) {
        WantPlots x = Check.pageOf(text);
        Check.due("fault of " + text, x.fault(), text.length());
        Check.due("world of " + text, x.world(), acts);
        Check.due("acts of " + text, x.about(1), acts);
    }

    /** A text that is a beginning of a world's text, but not a whole one. */
    private static void unfinished(String text) {
        WantPlots x = Check.pageOf(text);
        Check.due("fault of " + text, x.fault(), text.length());
        Check.refused(x, "world of " + text, x::world, -103);
    }

    private static String acts(int number) {
        return "0>a" + ",0>a".repeat(number - 1);
    }

    // ---- promise 1

    private static void newObject() {
        Check.sentence("Promise 1", "Creates an object without a world, with an empty page.");
        WantPlots x = new WantPlots();
        WantPlots other = Check.worldOf("p+a;:0>a");
        Check.write(other, "p");
        other.go(1);
        Check.row("count", x::count, 0, 0, 0, 0, 0, 0);
        Check.row("about", x::about, -103, -103, -103, -103, -103, -103, -103);
        Check.due("go", x.go(1), -103);
        Check.due("one", x.one(0, 0), -101);
        Check.due("deed", x.deed(0, 0), -101);
        Check.due("step", x.step(0, 0), -101);
        Check.due("fault", x.fault(), 0);
        Check.due("world", x.world(), -103);
        Check.due("digest", x.digest(), 1417343378557L);
        Check.due("blank", x.blank(), 0);
    }

    // ---- promise 2

    private static void codeAtLeast32() {
        Check.sentence("Promise 2", "its code, 32 to 126: too small");
        WantPlots x = new WantPlots();
        for (int code : new int[] {31, 0, -1, 97 - 256, 97 - 65536, Integer.MIN_VALUE, Integer.MIN_VALUE + 97}) {
            Check.refused(x, "letter " + code, () -> x.letter(code), -102);
        }
        Check.due("letter 32", x.letter(32), 1);
    }

    private static void codeAtMost126() {
        Check.sentence("Promise 2", "its code, 32 to 126: too large");
        WantPlots x = new WantPlots();
        for (int code : new int[] {127, 128, 255, 97 + 256, 97 + 65536, Integer.MAX_VALUE}) {
            Check.refused(x, "letter " + code, () -> x.letter(code), -102);
        }
        Check.due("letter 126", x.letter(126), 1);
    }

    private static void codeOutOfRangeOnAFullPage() {
        Check.sentence("Promise 2", "OUTSIDE if code is out of range; FULL if the page has 90 characters: both");
        WantPlots x = Check.pageOf("a".repeat(90));
        Check.refused(x, "letter 31", () -> x.letter(31), -102);
        Check.refused(x, "letter 127", () -> x.letter(127), -102);
    }

    private static void lengthAfterwards() {
        Check.sentence("Promise 2", "Returns the length of the page afterwards");
        WantPlots x = new WantPlots();
        for (int length = 1; length <= 90; length++) {
            Check.due("letter", x.letter(32 + length), length);
            Check.due("count 1", x.count(1), length);
        }
    }

    private static void fullPage() {
        Check.sentence("Promise 2", "FULL if the page has 90 characters");
        WantPlots x = Check.pageOf("a".repeat(89));
        Check.due("letter 90", x.letter(97), 90);
        Check.refused(x, "letter 91", () -> x.letter(97), -104);
        Check.refused(x, "letter 91", () -> x.letter(32), -104);
        Check.due("blank", x.blank(), 90);
        Check.due("letter on the empty page", x.letter(97), 1);
    }

    // ---- promise 3

    private static void blankEmpties() {
        Check.sentence("Promise 3", "Empties the page.");
        WantPlots x = Check.pageOf("p+a;:0>a");
        x.blank();
        Check.due("count 1", x.count(1), 0);
        Check.due("fault", x.fault(), 0);
        Check.due("world", x.world(), -103);
        Check.due("digest", x.digest(), 1417343378557L);
        WantPlots y = Check.worldOf("p+a;:0>a");
        y.go(1);
        long before = y.digest();
        Check.write(y, "p+b;:0>b");
        y.blank();
        Check.due("the world and the story stay", y.digest(), before);
        Check.due("blank of the empty page", y.blank(), 0);
        Check.due("the world and the story stay", y.digest(), before);
    }

    private static void blankTellsTheLength() {
        Check.sentence("Promise 3", "Returns the length that it had.");
        for (int length : new int[] {0, 1, 2, 89, 90}) {
            WantPlots x = Check.pageOf("~".repeat(length));
            Check.due("blank", x.blank(), length);
            Check.due("blank again", x.blank(), 0);
        }
    }

    // ---- promise 4

    private static void faultOfNoFault() {
        Check.sentence("Promise 4", "the length of the page if there is no such character");
        for (int length = 0; length <= LONGEST.length(); length++) {
            fault(LONGEST.substring(0, length), length);
        }
    }

    private static void faultPositionFromZero() {
        Check.sentence("Promise 4", "Returns the position, from 0");
        fault("!", 0);
        fault("!" + LONGEST.substring(1), 0);
        fault("p!", 1);
        for (int at = 0; at < 90; at++) {
            fault(LONGEST.substring(0, at) + "!" + LONGEST.substring(at + 1), at);
        }
    }

    private static void faultOfTheFirst() {
        Check.sentence("Promise 4", "of the first character of the page with which the page up to there is no"
                + " beginning of any text of a world");
        fault("p+a;:0>a!p+a;:0>a!", 8);
        fault("p++a;:0>a", 2);
        fault("!!", 0);
        WantPlots x = Check.pageOf("p+aa");
        Check.due("fault", x.fault(), 3);
        Check.write(x, ";:0>a");
        Check.due("fault of a longer page", x.fault(), 3);
        Check.due("fault again", x.fault(), 3);
        Check.due("the page after fault", x.count(1), 9);
    }

    // ---- promise 5

    private static void worldInPlaceOfTheOther() {
        Check.sentence("Promise 5", "Reads the page as the world, in place of the one that there was.");
        WantPlots x = Check.worldOf("s+h,k+g,i+f,p+e;abcdefgh:3abcd-efgh>a-bcdefgh,2>a,1>b,0>c,0>d,0>e,0>f,0>g,0>h,3>a");
        Check.write(x, "p-a;:0>-b");
        Check.due("world", x.world(), 1);
        Check.row("about", x::about, 1, 1, 0, 0, 0, 0, 1);
        Check.row("one", what -> x.one(0, what), 0, 0, 0, 1, 0, 0, -1, -1);
        Check.row("deed", what -> x.deed(0, what), 0, 0, 0, 0, 2, 1, 0);
        Check.row("one of", who -> x.one(who, 0), 0, -101, -101, -101);
        Check.row("deed of", act -> x.deed(act, 0), 0, -101, -101);
        Check.write(x, "i+b,s-c;ac:1c-a>b-d,0>a");
        Check.due("world", x.world(), 2);
        Check.row("about", x::about, 2, 2, 0, 0, 5, 5, 0);
        Check.row("deed", what -> x.deed(0, what), 1, 4, 1, 2, 8, 0, 0);
    }

    private static void worldBeginsAStory() {
        Check.sentence("Promise 5", "There is a story without steps then, turn 0 is next, and the page is empty.");
        WantPlots x = Check.worldOf("k+h,p-a;:0>b,1>-a");
        Check.acts(x, 1, 1);
        x.fate(0);
        x.go(7);
        Check.write(x, "k+h,p-a;:0>b,1>-a");
        Check.due("world", x.world(), 2);
        Check.due("steps", x.about(2), 0);
        Check.due("the next turn", x.about(3), 0);
        Check.due("the facts", x.about(4), 0);
        Check.due("the page", x.count(1), 0);
        Check.due("step", x.step(0, 0), -101);
        Check.due("undo", x.undo(), -103);
        Check.row("story", x::story, 0, 0, 0, 0, 2, 0, 0);
        Check.due("nothing has been seen", x.one(0, 3), 1);
        Check.due("nothing has been done", x.deed(1, 6), 0);
    }

    private static void worldTellsTheActs() {
        Check.sentence("Promise 5", "Returns the number of acts");
        for (int number = 1; number <= 10; number++) {
            complete("p+a;:" + acts(number), number);
        }
    }

    private static void worldRefused() {
        Check.sentence("Promise 5", "STATE if the page is not the complete text of a world (then the page stays, too)");
        WantPlots empty = new WantPlots();
        Check.refused(empty, "world of the empty page", empty::world, -103);
        String text = "s+a,p-b;c:0a-b>c-d,1>e";
        for (int length = 0; length < text.length(); length++) {
            String part = text.substring(0, length);
            WantPlots x = Check.worldOf("p+b;c:0>b,0>c");
            x.go(2);
            Check.write(x, part);
            if (part.endsWith(">c") || part.endsWith("-d")) {
                Check.due("world of " + part, x.world(), 1);
            } else {
                Check.refused(x, "world of " + part, x::world, -103);
                Check.due("the page stays", x.count(1), length);
                Check.due("the worlds read", x.count(3), 1);
                Check.due("the facts", x.about(4), 6);
            }
        }
        for (String more : new String[] {text + " ", text + ";", " " + text, text + text}) {
            WantPlots x = Check.pageOf(more);
            Check.refused(x, "world of " + more, x::world, -103);
            Check.due("no world is read", x.about(0), -103);
        }
        WantPlots x = Check.pageOf("p+a;:0>");
        Check.due("world", x.world(), -103);
        Check.write(x, "a");
        Check.due("world, when the page has been ended", x.world(), 1);
    }

    // ---- the description: what a world's text is

    private static void pageOf90() {
        Check.sentence("Description", "A world is read from a page of at most 90 characters.");
        Check.due("the length of the text", LONGEST.length(), 90);
        complete(LONGEST, 5);
        WantPlots x = Check.pageOf(LONGEST);
        Check.due("letter 91", x.letter('g'), -104);
        Check.due("world", x.world(), 5);
        Check.row("deed", what -> x.deed(4, what), 0, 15, 16, 32, 0, 0, 0);
    }

    private static void oneToFourCharacters() {
        Check.sentence("Description", "A world has 1 to 4 characters, numbered from 0");
        fault(";", 0);
        fault(";:0>a", 0);
        String people = "p+a";
        for (int number = 1; number <= 4; number++) {
            String text = people + ";:" + (number - 1) + ">a";
            complete(text, 1);
            WantPlots x = Check.worldOf(text);
            Check.due("characters", x.about(0), number);
            Check.due("the last character", x.one(number - 1, 0), 0);
            Check.due("the character after the last one", x.one(number, 0), -101);
            Check.due("the character before the first one", x.one(-1, 0), -101);
            people += ",p+a";
        }
        fault("p+a,p+a,p+a,p+a,", 15);
        fault("p+a,p+a,p+a,p+a,p+a;:0>a", 15);
        goesOn("p+a,p+a,p+a,p+a", ";");
    }

    private static void oneToTenActs() {
        Check.sentence("Description", "It has 1 to 10 acts, numbered from 0");
        unfinished("p+a;:");
        complete("p+a;:0>a", 1);
        complete("p+a;:" + acts(10), 10);
        WantPlots x = Check.worldOf("p+a;:" + acts(10));
        Check.due("act 9", x.act(9), 1);
        Check.due("act 10", x.act(10), -101);
        Check.due("act -1", x.act(-1), -101);
        goesOn("p+a;:" + acts(9), ",-bcdefgh");
        goesOn("p+a;:" + acts(10), "-bcdefgh");
        fault("p+a;:" + acts(11), 44);
    }

    private static void withoutBlanks() {
        Check.sentence("Description", "Its parts follow each other without blanks");
        String text = "s+a,p-b;c:0a-b>c-d,1>e";
        for (int at = 0; at <= text.length(); at++) {
            String spaced = text.substring(0, at) + " " + text.substring(at);
            fault(spaced, at);
            Check.due("world of " + spaced, Check.pageOf(spaced).world(), -103);
        }
    }

    private static void kinds() {
        Check.sentence("Description", "each is p, s, k or i for the kinds 0 to 3");
        goesOn("", "pski");
        goesOn("p+a,", "pski");
        Check.row("kind", kind -> Check.worldOf("pski".charAt(kind) + "+a;:0>a").one(0, 0), 0, 1, 2, 3);
    }

    private static void goalSigns() {
        Check.sentence("Description", "then + or - for true or false");
        goesOn("p", "+-");
        goesOn("p+a,s", "+-");
        Check.due("+", Check.worldOf("p+a;:0>a").one(0, 2), 1);
        Check.due("-", Check.worldOf("p-a;:0>a").one(0, 2), 0);
    }

    private static void goalFacts() {
        Check.sentence("Description", "and the letter of the fact of the goal");
        goesOn("p+", WHOLE);
        goesOn("p+a,i-", WHOLE);
        Check.row("fact", fact -> Check.worldOf("p+" + WHOLE.charAt(fact) + ";:0>a").one(0, 1), 0, 1, 2, 3, 4, 5, 6, 7);
    }

    private static void characterCommas() {
        Check.sentence("Description", "the characters, separated by commas");
        goesOn("p+a", ",;");
        goesOn("p+a,p+b", ",;");
        goesOn("p+a,p+b,p+c", ",;");
    }

    private static void firstFacts() {
        Check.sentence("Description", "a semicolon, and the facts that are true at first, perhaps none");
        Check.due("no fact", Check.worldOf("p+a;:0>a").about(5), 0);
        Check.due("the first fact", Check.worldOf("p+a;a:0>a").about(5), 1);
        Check.due("the last fact", Check.worldOf("p+a;h:0>a").about(5), 128);
        Check.due("all facts", Check.worldOf("p+a;abcdefgh:0>a").about(5), 255);
        goesOn("p+a;", ":" + WHOLE);
    }

    private static void colon() {
        Check.sentence("Description", "a colon, and the acts, separated by commas");
        goesOn("p+a;abcdefgh", ":");
        goesOn("p+a;h", ":");
        fault("p+a:0>a", 3);
        fault("p+a;0>a", 4);
    }

    private static void owners() {
        Check.sentence("Description", "each is the number of the character to whom it belongs");
        goesOn("p+a;:", "0");
        goesOn("p+a,p+a;:", "01");
        goesOn("p+a,p+a,p+a;:", "012");
        goesOn("p+a,p+a,p+a,p+a;:", "0123");
        goesOn("p+a,p+a;:1>a,", "01");
        WantPlots x = Check.worldOf("p+a,p+a,p+a,p+a;:3>a,2>a,1>a,0>a");
        Check.row("owner", act -> x.deed(act, 0), 3, 2, 1, 0);
    }

    private static void needsTrue() {
        Check.sentence("Description", "the facts that it needs to be true, perhaps none");
        goesOn("p+a;:0", "->" + WHOLE);
        goesOn("p+a;:0h", "->");
        goesOn("p+a;:0abcdefgh", ">");
        Check.due("no fact", Check.worldOf("p+a;:0>a").deed(0, 1), 0);
        Check.due("no fact, but a false one", Check.worldOf("p+a;:0-c>a").deed(0, 1), 0);
        Check.due("the last fact", Check.worldOf("p+a;:0h>a").deed(0, 1), 128);
        Check.due("all facts", Check.worldOf("p+a;:0abcdefgh>a").deed(0, 1), 255);
    }

    private static void needsFalse() {
        Check.sentence("Description", "if it needs facts to be false, a hyphen and these facts");
        goesOn("p+a;:0-", WHOLE);
        goesOn("p+a;:0bcdefgh-", "a");
        goesOn("p+a;:0-h", ">");
        goesOn("p+a;:0-abcdefgh", ">");
        goesOn("p+a;:0a-bcdefgh", ">");
        Check.due("no fact", Check.worldOf("p+a;:0b>a").deed(0, 2), 0);
        Check.due("the last fact", Check.worldOf("p+a;:0b-h>a").deed(0, 2), 128);
        Check.due("all facts", Check.worldOf("p+a;:0-abcdefgh>a").deed(0, 2), 255);
    }

    private static void makesTrue() {
        Check.sentence("Description", "the sign >; the facts that it makes true, perhaps none");
        goesOn("p+a;:0>", "-" + WHOLE);
        goesOn("p+a;:0>h", ",-");
        goesOn("p+a;:0>abcdefgh", ",");
        Check.due("no fact", Check.worldOf("p+a;:0>-c").deed(0, 3), 0);
        Check.due("the last fact", Check.worldOf("p+a;:0>h").deed(0, 3), 128);
        Check.due("all facts", Check.worldOf("p+a;:0>abcdefgh").deed(0, 3), 255);
    }

    private static void makesFalse() {
        Check.sentence("Description", "and if it makes facts false, a hyphen and these facts");
        goesOn("p+a;:0>-", WHOLE);
        goesOn("p+a;:0>bcdefgh-", "a");
        goesOn("p+a;:0>-h", ",");
        goesOn("p+a;:0>-abcdefgh", ",");
        goesOn("p+a;:0>a-bcdefgh", ",");
        unfinished("p+a;:0>a-");
        Check.due("no fact", Check.worldOf("p+a;:0>c").deed(0, 4), 0);
        Check.due("the last fact", Check.worldOf("p+a;:0>b-h").deed(0, 4), 128);
        Check.due("all facts", Check.worldOf("p+a;:0>-abcdefgh").deed(0, 4), 255);
    }

    private static void actCommas() {
        Check.sentence("Description", "the acts, separated by commas");
        unfinished("p+a;:0>a,");
        fault("p+a;:,0>a", 5);
        fault("p+a;:0>a,,0>a", 9);
        fault("p+a;:0,0>a", 6);
        fault("p+a;:0-a,0>a", 8);
        fault("p+a;:0>-,0>a", 8);
    }

    private static void ascending() {
        Check.sentence("Description", "Facts that stand together are in ascending order");
        goesOn("p+a;c", ":defgh");
        goesOn("p+a;:0c", "->defgh");
        goesOn("p+a;:0-c", ">defgh");
        goesOn("p+a;:0>c", ",-defgh");
        goesOn("p+a;:0>-c", ",defgh");
        complete("p+a;ag:0h-a>h-a", 1);
    }

    private static void noneTwice() {
        Check.sentence("Description", "none twice");
        for (String beginning : new String[] {"p+a;", "p+a;:0", "p+a;:0-", "p+a;:0>", "p+a;:0>-"}) {
            for (int fact = 0; fact < 8; fact++) {
                String twice = beginning + WHOLE.charAt(fact) + WHOLE.charAt(fact);
                fault(twice, twice.length() - 1);
            }
        }
    }

    private static void notNeededBothWays() {
        Check.sentence("Description", "No act needs the same fact to be true and false");
        for (int fact = 0; fact < 8; fact++) {
            String both = "p+a;:0" + WHOLE.charAt(fact) + "-" + WHOLE.charAt(fact);
            fault(both, both.length() - 1);
        }
        fault("p+a;:0abcdefgh-", 14);
        fault("p+a;:0bd-acd", 11);
        goesOn("p+a;:0ceg-", "abdfh");
        complete("p+a;:0c>a,0-c>a", 2);
    }

    private static void notMadeBothWays() {
        Check.sentence("Description", "none makes the same fact true and false");
        for (int fact = 0; fact < 8; fact++) {
            String both = "p+a;:0>" + WHOLE.charAt(fact) + "-" + WHOLE.charAt(fact);
            fault(both, both.length() - 1);
        }
        fault("p+a;:0>abcdefgh-", 15);
        fault("p+a;:0>bd-acd", 12);
        goesOn("p+a;:0>ceg-", "abdfh");
        complete("p+a;:0>c,0>-c", 2);
    }

    /** What an act needs and what it makes do not exclude each other. */
    private static void neededAndMade() {
        Check.sentence("Description", "Facts that stand together");
        complete("p+a;:0abcd-efgh>abcd-efgh", 1);
        complete("p+a;:0abcd-efgh>efgh-abcd", 1);
        complete("p+a;:0abcdefgh>abcdefgh,0-abcdefgh>-abcdefgh", 2);
    }

    private static void makesAtLeastOne() {
        Check.sentence("Description", "each makes at least one fact true or false");
        unfinished("p+a;:0>");
        unfinished("p+a;:0>-");
        unfinished("p+a;:0>a,0>");
        fault("p+a;:0>,", 7);
        fault("p+a;:0a>,", 8);
        complete("p+a;:0>b", 1);
        complete("p+a;:0>-b", 1);
    }
}
