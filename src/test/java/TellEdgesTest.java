import java.math.BigInteger;
import java.util.ArrayList;
import java.util.List;

/**
 * The boundary cases of what is told, sentence by sentence: what the description says of links,
 * threads, dull steps and the minimal story, and promises 10, 11, 14 to 16, 19 and 20. Each method
 * tests one sentence, whose words it names.
 */
public final class TellEdgesTest {
    /** In every turn something is done, and every step is linked to the one before it. */
    private static final String BUSY = "p+a,p-a;:0-a>a,1a>-a";
    private static final int[] ODD = {-1, -2, 10, 31, 32, 256, Integer.MIN_VALUE, Integer.MAX_VALUE};

    public static void main(String[] args) {
        aboutOutside();
        aboutWithoutWorld();
        aboutLeast();
        aboutMost();
        oneUnknown();
        oneOutside();
        onePlanNone();
        oneFirstActNone();
        oneWouldDoNone();
        oneWouldDoInRoundZero();
        oneSteps();
        deedUnknown();
        deedOutside();
        deedCanBeDone();
        deedSteps();
        stepUnknown();
        stepOutside();
        stepNoneForFate();
        stepNoneForAnAct();
        stepTurn();
        storyOutside();
        storyWithoutWorld();
        storyWithoutSteps();
        storyWithoutLinks();
        storyWidest();
        storyFinalGoals();
        countOutside();
        countWithoutWorld();
        countMost();
        countOfAllWorlds();
        digestWithoutWorld();
        digestOverflow();
        digestOfPlans();
        digestOfTheWay();
        digestOfThePage();
        noSuchEarlierStep();
        latestEarlierStep();
        countedOnce();
        fateLinks();
        dependence();
        threadsApart();
        threadsInWhateverDirection();
        threadNumbers();
        validFromFirstFacts();
        validEmptySet();
        validFate();
        dullWithoutFinalGoals();
        dullAmongAll();
        minimalAllLeftOut();
        minimalNoneLeftOut();
        minimalFirstAgain();
        setsAsBits();
        Check.end("TellEdgesTest");
    }

    // ---- promise 10

    private static void aboutOutside() {
        Check.sentence("Promise 10", "OUTSIDE if what is not 0 to 6");
        WantPlots x = Check.worldOf("p+a;a:0>a");
        Check.row("about", x::about, 1, 1, 0, 0, 1, 1, 1, -102, -102);
        for (int what : ODD) {
            Check.refused(x, "about " + what, () -> x.about(what), -102);
        }
    }

    private static void aboutWithoutWorld() {
        Check.sentence("Promise 10", "OUTSIDE if what is not 0 to 6; STATE if there is no world");
        WantPlots x = new WantPlots();
        Check.row("about", x::about, -103, -103, -103, -103, -103, -103, -103, -102);
        Check.refused(x, "about -1", () -> x.about(-1), -102);
        Check.refused(x, "about 0", () -> x.about(0), -103);
    }

    private static void aboutLeast() {
        Check.sentence("Promise 10", "Returns a property of the world or the story: the least");
        Check.row("about", Check.worldOf("p+a;:0>b")::about, 1, 1, 0, 0, 0, 0, 0);
    }

    private static void aboutMost() {
        Check.sentence("Promise 10", "Returns a property of the world or the story: the most");
        WantPlots x = Check.worldOf("p+a,p+b,p+c,p+h;abcdefgh:0>a,0>a,0>a,0>a,0>a,0>a,0>a,0>a,0>a,0>a");
        Check.actsUpTo(x, 9, 29);
        x.go(20);
        Check.actsUpTo(x, 9, 30);
        Check.row("about", x::about, 4, 10, 30, 20, 255, 255, 15);
    }

    // ---- promise 11

    private static void oneUnknown() {
        Check.sentence("Promise 11", "UNKNOWN if there is no such character");
        WantPlots none = new WantPlots();
        Check.refused(none, "one without a world", () -> none.one(0, 0), -101);
        Check.refused(none, "one 8 without a world", () -> none.one(0, 8), -101);
        WantPlots x = Check.worldOf("p+a,s+b,k+c;:0>a");
        Check.row("the kind of", who -> x.one(who, 0), 0, 1, 2, -101, -101);
        for (int who : ODD) {
            Check.refused(x, "one of " + who, () -> x.one(who, 0), -101);
            Check.refused(x, "one 8 of " + who, () -> x.one(who, 8), -101);
            Check.refused(x, "one -1 of " + who, () -> x.one(who, -1), -101);
        }
    }

    private static void oneOutside() {
        Check.sentence("Promise 11", "OUTSIDE if what is not 0 to 7");
        WantPlots x = Check.worldOf("i-h;h:0>-h");
        Check.row("one", what -> x.one(0, what), 3, 7, 0, 1, 0, 1, 0, 0, -102, -102);
        for (int what : ODD) {
            Check.refused(x, "one " + what, () -> x.one(0, what), -102);
        }
    }

    private static void onePlanNone() {
        Check.sentence("Promise 11", "5 for the number of acts of the plan by the repertoire (NONE if there is no plan)");
        WantPlots x = Check.worldOf("p+a,p+b,p+c,p+d;a:1>b,2>e,2e>c,3f>d");
        Check.row("one 5 of", who -> x.one(who, 5), 0, 1, 2, -1);
    }

    private static void oneFirstActNone() {
        Check.sentence("Promise 11", "6 for its first act (NONE if there is no plan or it is empty)");
        WantPlots x = Check.worldOf("p+a,p+b,p+c,p+d;a:1>b,2e>c,2>e,3f>d,0>a");
        Check.row("one 6 of", who -> x.one(who, 6), -1, 0, 2, -1);
    }

    private static void oneWouldDoNone() {
        Check.sentence("Promise 11", "7 for the act that the character would do now (NONE for nothing)");
        WantPlots x = Check.worldOf("s+a,k+b,i+c,p+d;a:1>b,2e>c,2>e,3f>d,0>a");
        Check.row("one 7 of", who -> x.one(who, 7), -1, 0, 2, -1);
    }

    private static void oneWouldDoInRoundZero() {
        Check.sentence("Promise 11", "in a turn of round 0");
        WantPlots x = Check.worldOf("i+a,i+b;ab:0>a,1>b");
        x.go(2);
        x.fate(0);
        x.fate(1);
        Check.row("the idle ones would do", who -> x.one(who, 7), 0, 1);
        Check.due("but rest in round 1", x.go(2), 0);
        Check.due("and do it in round 2", x.go(2), 2);
    }

    private static void oneSteps() {
        Check.sentence("Promise 11", "4 for the number of steps that are the character's own acts");
        WantPlots x = Check.worldOf("p+h,k+b,p+h,p+h;:0>b,1>c,2>d");
        Check.row("none", who -> x.one(who, 4), 0, 0, 0, 0);
        Check.acts(x, 0, 0);
        x.fate(1);
        x.go(2);
        Check.due("the keen one has done another one's act", x.step(3, 0), 0);
        Check.row("whose steps they are", who -> x.one(who, 4), 3, 0, 0, 0);
        Check.actsUpTo(x, 2, 30);
        Check.row("of 30 steps", who -> x.one(who, 4), 3, 0, 26, 0);
        WantPlots all = Check.worldOf("p+h;:0>b,0>c");
        Check.actsUpTo(all, 0, 15);
        Check.actsUpTo(all, 1, 30);
        Check.due("all 30 steps", all.one(0, 4), 30);
    }

    // ---- promise 14

    private static void deedUnknown() {
        Check.sentence("Promise 14", "UNKNOWN if there is no such act");
        WantPlots none = new WantPlots();
        Check.refused(none, "deed without a world", () -> none.deed(0, 0), -101);
        Check.refused(none, "deed 7 without a world", () -> none.deed(0, 7), -101);
        WantPlots x = Check.worldOf("p+a,p+b;:1>a,0>b");
        Check.row("the owner of", act -> x.deed(act, 0), 1, 0, -101, -101);
        for (int act : ODD) {
            Check.refused(x, "deed of " + act, () -> x.deed(act, 0), -101);
            Check.refused(x, "deed 7 of " + act, () -> x.deed(act, 7), -101);
            Check.refused(x, "deed -1 of " + act, () -> x.deed(act, -1), -101);
        }
        WantPlots ten = Check.worldOf("p+a;:0>a,0>a,0>a,0>a,0>a,0>a,0>a,0>a,0>a,0>h");
        Check.due("deed of 9", ten.deed(9, 3), 128);
        Check.due("deed of 10", ten.deed(10, 3), -101);
    }

    private static void deedOutside() {
        Check.sentence("Promise 14", "OUTSIDE if what is not 0 to 6");
        WantPlots x = Check.worldOf("p+a;:0ab-cd>ef-gh");
        Check.row("deed", what -> x.deed(0, what), 0, 3, 12, 48, 192, 0, 0, -102, -102);
        for (int what : ODD) {
            Check.refused(x, "deed " + what, () -> x.deed(0, what), -102);
        }
    }

    private static void deedCanBeDone() {
        Check.sentence("Promise 14", "5 for whether it can be done now (1 or 0)");
        WantPlots x = Check.worldOf("p+a;:0>b,0b>c,0-b>d,0b-c>e");
        Check.row("can be done", act -> x.deed(act, 5), 1, 0, 1, 0);
        Check.acts(x, 0);
        Check.row("can be done", act -> x.deed(act, 5), 1, 1, 0, 1);
        Check.acts(x, 1);
        Check.row("can be done", act -> x.deed(act, 5), 1, 1, 0, 0);
        Check.actsUpTo(x, 0, 30);
        Check.row("can be done, but for the room", act -> x.deed(act, 5), 1, 1, 0, 0);
    }

    private static void deedSteps() {
        Check.sentence("Promise 14", "6 for the number of steps that are this act");
        WantPlots x = Check.worldOf("p+a,p+b;ab:0>a,1>b");
        Check.row("none", act -> x.deed(act, 6), 0, 0);
        x.fate(0);
        Check.row("none by fate", act -> x.deed(act, 6), 0, 0);
        x.go(1);
        Check.row("one in a turn", act -> x.deed(act, 6), 1, 0);
        Check.actsUpTo(x, 1, 30);
        Check.row("of 30 steps", act -> x.deed(act, 6), 1, 28);
        x.undo();
        Check.row("of 29 steps", act -> x.deed(act, 6), 1, 27);
        WantPlots all = Check.worldOf("p+a;:0>b");
        Check.actsUpTo(all, 0, 30);
        Check.due("all 30 steps", all.deed(0, 6), 30);
    }

    // ---- promise 15

    private static void stepUnknown() {
        Check.sentence("Promise 15", "UNKNOWN if there is no such step");
        WantPlots none = new WantPlots();
        Check.refused(none, "step without a world", () -> none.step(0, 0), -101);
        WantPlots x = Check.worldOf("p+h;:0>b");
        Check.refused(x, "step 0 of none", () -> x.step(0, 0), -101);
        Check.acts(x, 0, 0);
        Check.row("step", step -> x.step(step, 0), 0, 0, -101, -101);
        for (int step : ODD) {
            Check.refused(x, "step " + step, () -> x.step(step, 0), -101);
            Check.refused(x, "step " + step + ", 9", () -> x.step(step, 9), -101);
            Check.refused(x, "step " + step + ", -1", () -> x.step(step, -1), -101);
        }
        x.undo();
        Check.due("the step that was undone", x.step(1, 0), -101);
        Check.actsUpTo(x, 0, 30);
        Check.due("step 29", x.step(29, 0), 0);
        Check.due("step 30", x.step(30, 0), -101);
    }

    private static void stepOutside() {
        Check.sentence("Promise 15", "OUTSIDE if what is not 0 to 8");
        WantPlots x = Check.worldOf("p+h;:0>h");
        x.go(1);
        Check.row("step 0", what -> x.step(0, what), 0, 0, -1, 128, 0, 0, 0, 0, 0, -102, -102);
        for (int what : ODD) {
            Check.refused(x, "step 0, " + what, () -> x.step(0, what), -102);
        }
    }

    private static void stepNoneForFate() {
        Check.sentence("Promise 15", "0 for its act (NONE for fate), 1 for the character to whom this act belongs (NONE for"
                + " fate)");
        WantPlots x = Check.worldOf("p+h,p+h;:1>b");
        x.fate(0);
        Check.acts(x, 0);
        Check.row("fate", what -> x.step(0, what), -1, -1, 0, 1);
        Check.row("an act", what -> x.step(1, what), 0, 1, -1, 3);
        x.undo();
        x.fate(7);
        Check.row("fate in place of the act", what -> x.step(1, what), -1, -1, 7, 129);
    }

    private static void stepNoneForAnAct() {
        Check.sentence("Promise 15", "2 for the fact that fate changed (NONE for an act)");
        WantPlots x = Check.worldOf("p+h;:0>h");
        Check.fates(x, 0, 1, 2, 3, 4, 5, 6, 7);
        Check.acts(x, 0);
        Check.row("the fact of step", step -> x.step(step, 2), 0, 1, 2, 3, 4, 5, 6, 7, -1);
        Check.row("the facts after step", step -> x.step(step, 3), 1, 3, 7, 15, 31, 63, 127, 255, 255);
        x.undo();
        x.undo();
        Check.acts(x, 0);
        Check.due("an act in place of fate", x.step(7, 2), -1);
    }

    private static void stepTurn() {
        Check.sentence("Promise 15", "8 for the turn in which it was done (for fate() and act() the turn that was next)");
        WantPlots x = Check.worldOf("p+a,p+h;:0>a,1>b");
        Check.acts(x, 1);
        x.fate(7);
        x.fate(7);
        x.go(5);
        x.fate(0);
        Check.acts(x, 1);
        x.go(3);
        Check.row("the turn of step", step -> x.step(step, 8), 0, 0, 0, 0, 5, 5, 6, -101);
    }

    // ---- promise 16

    private static void storyOutside() {
        Check.sentence("Promise 16", "OUTSIDE if what is not 0 to 6");
        WantPlots x = Check.worldOf("p+a;:0>a");
        x.go(1);
        Check.row("story", x::story, 1, 0, 1, 1, 1, 0, 0, -102, -102);
        for (int what : ODD) {
            Check.refused(x, "story " + what, () -> x.story(what), -102);
        }
    }

    private static void storyWithoutWorld() {
        Check.sentence("Promise 16", "OUTSIDE if what is not 0 to 6; STATE if there is no world");
        WantPlots x = new WantPlots();
        Check.row("story", x::story, -103, -103, -103, -103, -103, -103, -103, -102);
        Check.refused(x, "story -1", () -> x.story(-1), -102);
        Check.refused(x, "story 0", () -> x.story(0), -103);
    }

    private static void storyWithoutSteps() {
        Check.sentence("Promise 16", "Returns a property of all steps: of none");
        WantPlots x = Check.worldOf("p+a,p-b;:0>a");
        Check.row("story", x::story, 0, 0, 0, 0, 2, 0, 0);
        x.go(1);
        x.undo();
        Check.row("story", x::story, 0, 0, 0, 0, 2, 0, 0);
    }

    private static void storyWithoutLinks() {
        Check.sentence("Promise 16", "6 for the greatest difference of the numbers of two steps that are linked (0 without"
                + " links)");
        WantPlots x = Check.worldOf("p+h;ac:0a>b,0>d,0-e>f,0b>g");
        Check.acts(x, 0, 1, 2);
        x.fate(7);
        Check.due("links", x.story(5), 0);
        Check.due("the greatest difference", x.story(6), 0);
        Check.acts(x, 3);
        Check.due("links", x.story(5), 1);
        Check.due("the greatest difference", x.story(6), 4);
    }

    private static void storyWidest() {
        Check.sentence("Promise 16", "the greatest difference of the numbers of two steps that are linked: the greatest"
                + " that there can be");
        WantPlots x = Check.worldOf("p+h;:0>a,0>b,0ab>c");
        Check.acts(x, 0);
        Check.actsUpTo(x, 1, 29);
        Check.acts(x, 2);
        Check.due("links", x.step(29, 4), 1 | 1 << 28);
        Check.due("the greatest difference", x.story(6), 29);
        Check.due("links of all steps", x.story(5), 2);
        WantPlots y = Check.worldOf(BUSY);
        y.go(20);
        y.go(20);
        Check.due("the greatest difference", y.story(6), 1);
        Check.due("links of all steps", y.story(5), 29);
    }

    private static void storyFinalGoals() {
        Check.sentence("Promise 16", "4 for the set of characters whose goals are final goals");
        WantPlots x = Check.worldOf("p+a,p-b,p+c,p-h;bh:0>a,1>-b,2>c,3>-h");
        int[] goals = {0, 1, 3, 7, 15};
        for (int done = 0; done < 4; done++) {
            Check.due("final goals", x.story(4), goals[done]);
            Check.acts(x, done);
        }
        Check.due("all goals", x.story(4), 15);
        x.fate(7);
        Check.due("but for the last one's", x.story(4), 7);
    }

    // ---- promise 19

    private static void countOutside() {
        Check.sentence("Promise 19", "OUTSIDE if what is not 0 to 5");
        WantPlots none = new WantPlots();
        WantPlots x = Check.worldOf("p+a;:0>a");
        Check.row("count without a world", none::count, 0, 0, 0, 0, 0, 0, -102, -102);
        Check.row("count", x::count, 1, 0, 0, 1, 0, 0, -102, -102);
        for (int what : ODD) {
            Check.refused(none, "count without a world " + what, () -> none.count(what), -102);
            Check.refused(x, "count " + what, () -> x.count(what), -102);
        }
    }

    private static void countWithoutWorld() {
        Check.sentence("Promise 19", "0 for the number of acts (0 without a world)");
        WantPlots x = Check.pageOf("p+a;:0>a,0>b");
        Check.due("fault", x.fault(), 12);
        Check.due("acts without a world, though a text of one is on the page", x.count(0), 0);
        Check.write(x, "!");
        x.world();
        Check.due("acts without a world, though one was tried", x.count(0), 0);
        x.blank();
        Check.write(x, "p+a;:0>a,0>b");
        x.world();
        Check.due("acts", x.count(0), 2);
        Check.write(x, "p+a;:0>a");
        x.fault();
        Check.due("acts, though another text is on the page", x.count(0), 2);
    }

    private static void countMost() {
        Check.sentence("Promise 19", "1 for the length of the page, 2 for the number of steps");
        WantPlots x = Check.worldOf("p+a;:0>a,0>a,0>a,0>a,0>a,0>a,0>a,0>a,0>a,0>a");
        Check.row("count", x::count, 10, 0, 0, 1, 0, 0);
        Check.write(x, "~".repeat(90));
        Check.actsUpTo(x, 9, 30);
        Check.row("count", x::count, 10, 90, 30, 1, 0, 0);
        x.blank();
        x.undo();
        Check.row("count", x::count, 10, 0, 29, 1, 0, 1);
    }

    private static void countOfAllWorlds() {
        Check.sentence("Promise 19", "3 for how often a world was read, 4 for the number of turns that have passed in all"
                + " worlds, 5 for the number of steps that were undone in all worlds");
        WantPlots x = new WantPlots();
        for (int world = 1; world <= 4; world++) {
            Check.due("world", x.world(), -103);
            Check.write(x, "p+a;:0>a");
            Check.due("world", x.world(), 1);
            Check.due("go", x.go(20), 1);
            Check.due("go", x.go(1), 0);
            Check.due("undo", x.undo(), 0);
            Check.due("undo", x.undo(), -103);
            x.fate(7);
            x.undo();
            x.fate(7);
            Check.row("count", x::count, 1, 0, 1, world, 21 * world, 2 * world);
        }
    }

    // ---- promise 20

    /** The digest of numbers, in unbounded arithmetic that is cut to 64 bits at the end. */
    private static long digestOf(List<Integer> numbers) {
        BigInteger h = BigInteger.valueOf(1597);
        for (int v : numbers) {
            h = h.multiply(BigInteger.valueOf(31)).add(BigInteger.valueOf(v));
        }
        return h.longValue();
    }

    /** The numbers of the digest, in the order of the document, by the calls that it names. */
    private static List<Integer> numbers(WantPlots x, String page) {
        List<Integer> all = new ArrayList<>();
        for (int what = 0; what <= 6; what++) {
            all.add(x.about(what));
        }
        for (int who = 0; who < x.about(0); who++) {
            for (int what = 0; what <= 7; what++) {
                all.add(x.one(who, what));
            }
            for (int place = 0; x.plan(who, place) != -101; place++) {
                all.add(x.plan(who, place));
            }
        }
        for (int act = 0; act < x.about(1); act++) {
            for (int what = 0; what <= 6; what++) {
                all.add(x.deed(act, what));
            }
        }
        for (int step = 0; step < x.about(2); step++) {
            for (int what = 0; what <= 8; what++) {
                all.add(x.step(step, what));
            }
        }
        for (int what = 0; what <= 6; what++) {
            all.add(x.story(what));
        }
        for (int place = -1; place == -1 || x.together(place) != -101; place++) {
            all.add(x.together(place));
        }
        for (int length = 0; length <= 4; length++) {
            all.add(x.ways(length));
        }
        all.addAll(lastNumbers(x, page));
        return all;
    }

    private static List<Integer> lastNumbers(WantPlots x, String page) {
        List<Integer> all = new ArrayList<>();
        for (char c : page.toCharArray()) {
            all.add((int) c);
        }
        for (int what = 0; what <= 5; what++) {
            all.add(x.count(what));
        }
        return all;
    }

    private static void digestWithoutWorld() {
        Check.sentence("Promise 20", "If there is a world: .. In any case, then: the codes of the characters of the page;"
                + " count(0) to count(5)");
        WantPlots x = new WantPlots();
        Check.due("digest", x.digest(), digestOf(List.of(0, 0, 0, 0, 0, 0)));
        x.letter(32);
        x.letter(126);
        Check.due("digest", x.digest(), digestOf(List.of(32, 126, 0, 2, 0, 0, 0, 0)));
        WantPlots least = Check.worldOf("p+a;:0>b");
        Check.due("digest of the least world", least.digest(), digestOf(numbers(least, "")));
    }

    private static void digestOverflow() {
        Check.sentence("Promise 20", "h becomes 31 * h + v, in long arithmetic with overflow");
        WantPlots x = Check.worldOf(BUSY);
        x.go(20);
        x.go(20);
        Check.due("digest of 30 steps", x.digest(), digestOf(numbers(x, "")));
        String tildes = "~".repeat(90);
        WantPlots page = Check.pageOf(tildes);
        Check.due("digest of a full page", page.digest(), digestOf(lastNumbers(page, tildes)));
    }

    private static void digests(String... texts) {
        for (String text : texts) {
            WantPlots x = Check.worldOf(text);
            Check.due("digest of " + text, x.digest(), digestOf(numbers(x, "")));
        }
    }

    /** No plan, an empty one, longer ones, and the plan of a sly one who would do something else. */
    private static void digestOfPlans() {
        Check.sentence("Promise 20", "for each character one(who, 0) to one(who, 7) and then the acts of the plan by the"
                + " repertoire");
        digests("p+a;:0>b", "p+a;a:0>a", "p+b;:0>a,0a>b", "s+d,p+b;a:0>e,0e>d,0a>-a,1a>b",
                "s+a,k+b,i-c,p-d;cd:0>e,0e>a,1>b,2>-c,3>-d");
    }

    private static void digestOfTheWay() {
        Check.sentence("Promise 20", "together(NONE), and the acts of this way; ways(0) to ways(4)");
        digests("p+a,p-a;:0>a,1>-a", "p+a,p-b;a:0>a,1>-b", "p+a,p+b;a:0>a,1c>b,1>c", "p+a,p+b,p+c;:2>c,1>b,0>a");
    }

    private static void digestOfThePage() {
        Check.sentence("Promise 20", "the codes of the characters of the page: of an empty and a full page");
        WantPlots x = Check.worldOf("p+a;:0>a");
        Check.due("digest with an empty page", x.digest(), digestOf(numbers(x, "")));
        String page = "p+a;:0>a !~".repeat(8) + "xy";
        Check.write(x, page);
        Check.due("the page is full", x.letter(97), -104);
        Check.due("digest with a full page", x.digest(), digestOf(numbers(x, page)));
        Check.due("digest again", x.digest(), digestOf(numbers(x, page)));
        x.blank();
        Check.due("digest with an empty page again", x.digest(), digestOf(numbers(x, "")));
    }

    // ---- the description: links, dependence, threads

    private static void noSuchEarlierStep() {
        Check.sentence("Description", "if there are such steps");
        WantPlots x = Check.worldOf("p+h;a:0a-b>a,0a-b>-b");
        Check.acts(x, 0);
        Check.due("true and false at first", x.step(0, 4), 0);
        Check.acts(x, 0);
        Check.due("not linked to itself, but to the one before", x.step(1, 4), 1);
        Check.acts(x, 1, 1);
        Check.due("false at first still", x.step(2, 4), 2);
        Check.due("made false by the latest one", x.step(3, 4), 6);
        Check.due("the last one's dependence", x.step(3, 5), 7);
    }

    private static void latestEarlierStep() {
        Check.sentence("Description", "to the latest earlier step that makes it true, and for each fact that it needs to be"
                + " false, to the latest earlier step that makes it false");
        WantPlots x = Check.worldOf("p+h;:0>a-b,0>c,0a-b>d");
        Check.acts(x, 0, 0, 1, 2);
        Check.due("of two steps the latest, of both needs", x.step(3, 4), 2);
        x.fate(0);
        x.fate(0);
        Check.acts(x, 2);
        Check.due("true by fate, false by the act before", x.step(6, 4), 2 | 1 << 5);
        x.fate(1);
        x.fate(1);
        Check.acts(x, 2);
        Check.due("true and false by fate", x.step(9, 4), 1 << 5 | 1 << 8);
        Check.acts(x, 0, 2);
        Check.due("the step just before", x.step(11, 4), 1 << 10);
    }

    private static void countedOnce() {
        Check.sentence("Description", "(each is counted once)");
        WantPlots x = Check.worldOf("p+h;efgh:0>abcd-efgh,0abcd-efgh>a,0abcd-efgh>b");
        Check.acts(x, 0, 1);
        Check.due("eight needs met by one step", x.step(1, 4), 1);
        Check.due("links", x.story(5), 1);
        Check.acts(x, 2);
        Check.due("eight needs met by two steps", x.step(2, 4), 3);
        Check.due("links", x.story(5), 3);
    }

    private static void fateLinks() {
        Check.sentence("Description", "Steps of fate are linked to no earlier steps, but other steps can be linked to them.");
        WantPlots x = Check.worldOf("p+h;:0>a,0a>b,0-a>c");
        Check.acts(x, 0);
        Check.fates(x, 0, 0);
        Check.acts(x, 1);
        Check.fates(x, 0, 0, 0);
        Check.acts(x, 2);
        Check.row("links of step", step -> x.step(step, 4), 0, 0, 0, 4, 0, 0, 0, 64);
        Check.row("dependence of step", step -> x.step(step, 5), 0, 0, 0, 4, 0, 0, 0, 64);
        Check.row("thread of step", step -> x.step(step, 6), 0, 1, 2, 2, 3, 4, 5, 5);
    }

    private static void dependence() {
        Check.sentence("Description", "A step depends on the steps to which it is linked, and on those on which these"
                + " depend.");
        WantPlots x = Check.worldOf(BUSY);
        x.go(20);
        x.go(20);
        for (int step = 0; step < 30; step++) {
            Check.due("dependence of step " + step, x.step(step, 5), (1 << step) - 1);
            Check.due("links of step " + step, x.step(step, 4), step == 0 ? 0 : 1 << step - 1);
        }
        WantPlots y = Check.worldOf("p+h;:0>a,0>b,0a>c,0b>d,0cd>e,0e>f");
        Check.acts(y, 0, 1, 2, 3, 4, 5);
        Check.row("dependence of step", step -> y.step(step, 5), 0, 0, 1, 2, 15, 31);
        Check.row("links of step", step -> y.step(step, 4), 0, 0, 1, 2, 12, 16);
    }

    private static void threadsApart() {
        Check.sentence("Description", "Threads are the classes of steps that are connected by links");
        WantPlots x = Check.worldOf("p+h;:0>a");
        Check.actsUpTo(x, 0, 30);
        Check.due("as many threads as steps", x.story(0), 30);
        for (int step = 0; step < 30; step++) {
            Check.due("thread of step " + step, x.step(step, 6), step);
        }
        WantPlots y = Check.worldOf(BUSY);
        y.go(20);
        y.go(20);
        Check.due("one thread", y.story(0), 1);
        Check.due("thread of the last step", y.step(29, 6), 0);
    }

    private static void threadsInWhateverDirection() {
        Check.sentence("Description", "in whatever direction");
        WantPlots fork = Check.worldOf("p+h;:0>a,0a>b,0a>c");
        Check.acts(fork, 0, 1, 2);
        Check.due("two steps linked to one", fork.story(0), 1);
        WantPlots join = Check.worldOf("p+h;:0>a,0>b,0ab>c");
        Check.acts(join, 0, 1);
        Check.due("apart", join.story(0), 2);
        Check.acts(join, 2);
        Check.due("one step linked to two", join.story(0), 1);
        WantPlots zigzag = Check.worldOf("p+h;:0>a,0>b,0>c,0>d,0cd>e,0ab>f,0bc>g");
        Check.acts(zigzag, 0, 1, 2, 3, 4, 5);
        Check.row("thread of step", step -> zigzag.step(step, 6), 0, 0, 1, 1, 1, 0);
        Check.acts(zigzag, 6);
        Check.row("thread of step", step -> zigzag.step(step, 6), 0, 0, 0, 0, 0, 0, 0);
        zigzag.undo();
        Check.row("thread of step", step -> zigzag.step(step, 6), 0, 0, 1, 1, 1, 0);
    }

    private static void threadNumbers() {
        Check.sentence("Description", "they are numbered from 0 by their first steps");
        WantPlots x = Check.worldOf("p+h;:0>a,0>b,0>c,0a>d,0b>e,0c>f");
        Check.acts(x, 2, 1, 0, 3, 5, 4);
        Check.row("thread of step", step -> x.step(step, 6), 0, 1, 2, 2, 0, 1);
        Check.due("threads", x.story(0), 3);
        WantPlots y = Check.worldOf("p+h;:0>a,0>b,0>c,0ac>d");
        Check.acts(y, 0, 1, 2, 3);
        Check.row("the number of a thread that is joined is free again", step -> y.step(step, 6), 0, 1, 0, 0);
        y.fate(7);
        Check.due("the next thread", y.step(4, 6), 2);
    }

    // ---- the description: valid sets, dull steps, the minimal story

    private static int[] dull(WantPlots x) {
        int[] got = new int[x.about(2)];
        for (int step = 0; step < got.length; step++) {
            got[step] = x.step(step, 7);
        }
        return got;
    }

    private static void dullAre(String name, WantPlots x, int... want) {
        int[] got = dull(x);
        Check.due(name + ": steps", got.length, want.length);
        Check.row(name + ": dull", step -> got[step], want);
        int sum = 0;
        for (int one : want) {
            sum += one;
        }
        Check.due(name + ": dull steps", x.story(1), sum);
    }

    private static void validFromFirstFacts() {
        Check.sentence("Description", "A set of steps is valid if they can be done one after the other, from the facts at"
                + " first on, and all final goals are satisfied afterwards");
        WantPlots x = Check.worldOf("p+b;:0>a,0a>b");
        Check.acts(x, 0, 1);
        dullAre("each is needed", x, 0, 0);
        WantPlots y = Check.worldOf("p+b;a:0>a,0a>b");
        Check.acts(y, 0, 1);
        dullAre("what was so at first", y, 1, 0);
        WantPlots z = Check.worldOf("p+b,p-c;:0>b,1>-c,0>c");
        Check.acts(z, 0, 2, 1);
        dullAre("a goal that would be spoilt", z, 0, 1, 0);
        WantPlots two = Check.worldOf("p+b,p+c;:0>b,1>c");
        Check.acts(two, 0, 1);
        dullAre("two goals", two, 0, 0);
    }

    private static void validEmptySet() {
        Check.sentence("Description", "A set of steps is valid: the empty set");
        WantPlots x = Check.worldOf("p+b;b:0>b");
        Check.acts(x, 0);
        dullAre("satisfied at first", x, 1);
        Check.row("story", what -> x.story(what + 2), 0, 0, 1);
        WantPlots y = Check.worldOf("p+b;:0>b");
        Check.acts(y, 0);
        dullAre("not satisfied at first", y, 0);
        Check.row("story", what -> y.story(what + 2), 1, 1, 1);
    }

    private static void validFate() {
        Check.sentence("Description", "a step of fate can always be done, and makes its fact true or false as it did");
        WantPlots x = Check.worldOf("p+a;:0>b");
        Check.fates(x, 0, 0, 0);
        dullAre("true, false, true", x, 1, 1, 0);
        Check.due("the last one is left", x.story(3), 4);
        WantPlots y = Check.worldOf("p-a;a:0>b");
        Check.fates(y, 0, 0, 0);
        dullAre("false, true, false", y, 1, 1, 0);
        Check.due("the last one is left", y.story(3), 4);
        WantPlots z = Check.worldOf("p+a;:0-a>b,0a>c,0>a");
        Check.acts(z, 2);
        z.fate(0);
        Check.acts(z, 0);
        z.fate(0);
        dullAre("fate between acts", z, 1, 0, 1, 0);
        Check.due("the last one is left", z.story(3), 8);
    }

    private static void dullWithoutFinalGoals() {
        Check.sentence("Description", "The final goals are the goals that are satisfied now.");
        WantPlots x = Check.worldOf("p+a,p+h;:0>a,0>b");
        Check.acts(x, 0, 1);
        dullAre("one final goal", x, 0, 1);
        x.fate(0);
        dullAre("no final goal any more", x, 1, 1, 1);
        Check.due("nothing is left", x.story(2), 0);
        x.undo();
        dullAre("one final goal again", x, 0, 1);
    }

    private static void dullAmongAll() {
        Check.sentence("Description", "A step is dull among a set of steps that contains it if the set without it is valid.");
        WantPlots x = Check.worldOf("p+c;:0>a,0a>b,0b>c");
        Check.acts(x, 0, 1, 2);
        dullAre("a chain", x, 0, 0, 0);
        Check.acts(x, 0, 1, 2);
        dullAre("a chain twice", x, 0, 0, 1, 1, 1, 1);
        WantPlots y = Check.worldOf("p+a;:0>a");
        Check.actsUpTo(y, 0, 30);
        Check.due("30 steps for one goal: dull", y.story(1), 30);
        Check.due("30 steps for one goal: dull", y.step(29, 7), 1);
        Check.due("30 steps for one goal: left", y.story(3), 1 << 29);
    }

    private static void minimalAllLeftOut() {
        Check.sentence("Description", "as long as there is one: until none is left");
        WantPlots x = Check.worldOf("p+h;:0>a");
        Check.actsUpTo(x, 0, 30);
        Check.due("left", x.story(2), 0);
        Check.due("left", x.story(3), 0);
        WantPlots chain = Check.worldOf("p+h;:0>a,0a>b,0b>c,0c>d");
        Check.acts(chain, 0, 1, 2, 3);
        dullAre("a chain to nothing", chain, 0, 0, 0, 1);
        Check.due("a chain to nothing: left", chain.story(3), 0);
    }

    private static void minimalNoneLeftOut() {
        Check.sentence("Description", "as long as there is one: at once there is none");
        WantPlots x = Check.worldOf("p+c;:0>a,0a>b,0b>c");
        Check.due("go", x.go(20), 3);
        Check.due("a plan that was carried out", x.story(3), 7);
        WantPlots y = Check.worldOf("p-b,p+a;b:0-a>a,1a>-a,0a>-b");
        for (int i = 0; i < 14; i++) {
            Check.acts(y, 0, 1);
        }
        Check.acts(y, 0, 2);
        Check.due("30 steps", y.about(2), 30);
        Check.due("dull are none", y.story(1), 0);
        Check.due("all 30 are left", y.story(2), 30);
        Check.due("all 30 are left", y.story(3), (1 << 30) - 1);
    }

    private static void minimalFirstAgain() {
        Check.sentence("Description", "beginning with all steps, again and again the first step that is dull among the"
                + " remaining ones is left out");
        WantPlots x = Check.worldOf("p+c;:0>a,0a>b,0>c");
        Check.acts(x, 0, 1, 2, 2);
        dullAre("a step that is dull only later", x, 0, 1, 1, 1);
        Check.due("the last one is left", x.story(3), 8);
        WantPlots y = Check.worldOf("p+c;:0>a,0>b,0a>c,0b>c");
        Check.acts(y, 0, 2, 1, 3);
        dullAre("two ways to the goal", y, 0, 1, 0, 1);
        Check.due("the first way is left out", y.story(3), 12);
        Check.due("the first way is left out", y.story(2), 2);
    }

    private static void setsAsBits() {
        Check.sentence("Description", "Sets are returned as bits: bit k stands for number k.");
        WantPlots x = Check.worldOf("p+a,p+h,p+h,p+a;h:0>a,0a>b,3>c,3c>d,3>a,3>a,3>a,3>a,3>a,3>a");
        Check.due("facts at first", x.about(5), 128);
        Check.due("characters", x.about(6), 6);
        Check.due("acts", x.one(3, 3), 1020);
        Check.acts(x, 0, 1);
        Check.actsUpTo(x, 2, 29);
        Check.acts(x, 3);
        Check.due("steps", x.step(29, 4), 1 << 28);
        Check.due("steps", x.step(1, 5), 1);
        Check.due("minimal story", x.story(3), 1);
    }
}
