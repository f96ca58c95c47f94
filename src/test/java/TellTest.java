/** Promises 10 to 16: what is told of the world, characters, plans, foils, acts, steps and the story. */
public final class TellTest {
    private static final int[] NO_WHAT = {-1, 9, 100, Integer.MIN_VALUE, Integer.MAX_VALUE};

    public static void main(String[] args) {
        outOfRange();
        abouts();
        ones();
        plans();
        longPlan();
        foils();
        foilsByRepertoire();
        deeds();
        links();
        threads();
        threadsApartAgain();
        dullSteps();
        minimalStories();
        fateInMinimalStories();
        Check.end("TellTest");
    }

    private static void row(String name, int[] got, int... want) {
        Check.due(name + ": length", got.length, want.length);
        for (int i = 0; i < want.length && i < got.length; i++) {
            Check.due(name + ", " + i, got[i], want[i]);
        }
    }

    private static int[] about(WantPlots x) {
        int[] got = new int[7];
        for (int what = 0; what < 7; what++) {
            got[what] = x.about(what);
        }
        return got;
    }

    private static int[] one(WantPlots x, int who) {
        int[] got = new int[8];
        for (int what = 0; what < 8; what++) {
            got[what] = x.one(who, what);
        }
        return got;
    }

    private static int[] deed(WantPlots x, int act) {
        int[] got = new int[7];
        for (int what = 0; what < 7; what++) {
            got[what] = x.deed(act, what);
        }
        return got;
    }

    private static int[] step(WantPlots x, int step) {
        int[] got = new int[9];
        for (int what = 0; what < 9; what++) {
            got[what] = x.step(step, what);
        }
        return got;
    }

    private static int[] story(WantPlots x) {
        int[] got = new int[7];
        for (int what = 0; what < 7; what++) {
            got[what] = x.story(what);
        }
        return got;
    }

    private static void outOfRange() {
        WantPlots none = new WantPlots();
        WantPlots x = Check.worldOf("p+a,s-b;:0>a,1>b");
        x.fate(3);
        for (int odd : NO_WHAT) {
            Check.due("about " + odd, x.about(odd), -102);
            Check.due("about without a world " + odd, none.about(odd), -102);
            Check.due("story " + odd, x.story(odd), -102);
            Check.due("story without a world " + odd, none.story(odd), -102);
            Check.due("one " + odd, x.one(0, odd), -102);
            Check.due("no one " + odd, x.one(odd, odd), -101);
            Check.due("no one " + odd, x.one(odd, 0), -101);
            Check.due("deed " + odd, x.deed(0, odd), -102);
            Check.due("no deed " + odd, x.deed(odd, odd), -101);
            Check.due("no deed " + odd, x.deed(odd, 0), -101);
            Check.due("step " + odd, x.step(0, odd), -102);
            Check.due("no step " + odd, x.step(odd, odd), -101);
            Check.due("no step " + odd, x.step(odd, 0), -101);
            Check.due("no plan " + odd, x.plan(odd, 0), -101);
            Check.due("no place of a plan " + odd, x.plan(0, odd), -101);
            Check.due("no foil " + odd, x.foil(odd, 0, 0), -101);
            Check.due("no foil against " + odd, x.foil(0, odd, 0), -101);
            Check.due("no place of a foil " + odd, x.foil(0, 1, odd), -101);
        }
        Check.due("about 7", x.about(7), -102);
        Check.due("story 7", x.story(7), -102);
        Check.due("one 8", x.one(0, 8), -102);
        Check.due("one of character 2", x.one(2, 0), -101);
        Check.due("deed 7", x.deed(0, 7), -102);
        Check.due("deed of act 2", x.deed(2, 0), -101);
        Check.due("step 1", x.step(1, 0), -101);
        Check.due("the foil against oneself", x.foil(0, 0, 0), -101);
    }

    private static void abouts() {
        WantPlots x = Check.worldOf("p+a,p-a,p+b,i-h;bc:0>a,0>h,1b>-b,2>b,3>c");
        row("about", about(x), 4, 5, 0, 0, 6, 6, 14);
        x.go(1);
        x.fate(7);
        x.act(2);
        row("about", about(x), 4, 5, 3, 1, 133, 6, 1);
    }

    private static void ones() {
        WantPlots x = Check.worldOf("s-h,k+c,i+d,p-a;ah:1>b,0b>-h,2a>d,0>b");
        Check.due("the first act before anything else was asked", x.one(2, 6), 2);
        row("the sly one", one(x, 0), 1, 7, 0, 10, 0, 2, 3, 3);
        row("the keen one", one(x, 1), 2, 2, 1, 1, 0, -1, -1, -1);
        row("the idle one", one(x, 2), 3, 3, 1, 4, 0, 1, 2, 2);
        row("the plain one", one(x, 3), 0, 0, 0, 0, 0, -1, -1, -1);
        x.go(4);
        row("the sly one", one(x, 0), 1, 7, 0, 10, 1, 1, 1, 1);
        row("the idle one", one(x, 2), 3, 3, 1, 4, 1, 0, -1, -1);
        x.go(4);
        x.act(1);
        x.act(1);
        row("the sly one", one(x, 0), 1, 7, 0, 10, 4, 0, -1, -1);
        row("the keen one", one(x, 1), 2, 2, 1, 3, 0, -1, -1, -1);
    }

    private static void plans() {
        WantPlots x = Check.worldOf("p+d,p-a,p+h;:0>b,0>c,0bc>d,0>a,1b>a,1a>-a");
        row("the plan", new int[] {x.plan(0, 0), x.plan(0, 1), x.plan(0, 2), x.plan(0, 3), x.plan(0, -1)},
                0, 1, 2, -101, -101);
        Check.due("the empty plan", x.plan(1, 0), -101);
        Check.due("no plan", x.plan(2, 0), -101);
        x.act(1);
        row("the shorter plan", new int[] {x.plan(0, 0), x.plan(0, 1), x.plan(0, 2)}, 0, 2, -101);
        x.act(0);
        x.act(2);
        Check.due("the plan that is carried out", x.plan(0, 0), -101);
        x.fate(0);
        Check.due("the plan to make a fact false", x.plan(1, 0), 5);
    }

    /** A counter in base two: the goal needs 64 acts, in the order of a ruler's marks. */
    private static void longPlan() {
        WantPlots x = Check.worldOf("p+g;:0>a,0a>b-a,0ab>c-ab,0abc>d-abc,0abcd>e-abcd,0abcde>f-abcde,0abcdef>g-abcdef");
        Check.due("the long plan", x.one(0, 5), 64);
        for (int place = 0; place < 64; place++) {
            Check.due("the long plan at " + place, x.plan(0, place), Integer.numberOfTrailingZeros(place + 1));
        }
        Check.due("after the long plan", x.plan(0, 64), -101);
        Check.due("the long way", x.together(-1), 64);
        Check.due("the end of the long way", x.together(63), 6);
    }

    private static void foils() {
        WantPlots x = Check.worldOf("p+h,p+b,p-b;a:0>c,0c>-a,1a>b,2c>-c,2>d");
        row("the foil", new int[] {x.foil(0, 1, 0), x.foil(0, 1, 1), x.foil(0, 1, 2), x.foil(0, 1, -1)},
                0, 1, -101, -101);
        Check.due("the foil against one without a plan is empty", x.foil(1, 0, 0), -101);
        Check.due("there is no foil against one that is satisfied for ever", x.foil(0, 2, 0), -101);
        Check.due("there is no foil", x.foil(2, 1, 0), -101);
        Check.due("a goal is taken away for ever", x.foil(1, 2, 0), 2);
        x.act(0);
        row("the shorter foil", new int[] {x.foil(0, 1, 0), x.foil(0, 1, 1)}, 1, -101);
        x.act(2);
        Check.due("no foil any more", x.foil(0, 1, 0), -101);
    }

    private static void foilsByRepertoire() {
        WantPlots x = Check.worldOf("k+h,k+b;ae:0f>f,1a>b-e,0>-b,1>-a");
        Check.due("the keen one knows no foil", x.foil(0, 1, 0), -101);
        x.act(3);
        x.act(3);
        x.fate(0);
        Check.due("the keen one has learnt a foil", x.foil(0, 1, 0), 3);
        WantPlots y = Check.worldOf("p+h,k+b;a:0a>-a,1a>b,0>b");
        Check.due("the foil against one that knows little", y.foil(0, 1, 0), 0);
        y.act(2);
        y.act(2);
        y.fate(1);
        Check.due("no foil against one that has learnt", y.foil(0, 1, 0), -101);
    }

    private static void deeds() {
        WantPlots x = Check.worldOf("p+a,p+b;bh:1bh-ac>adg-bf,0>-h,0-h>h");
        row("deed 0", deed(x, 0), 1, 130, 5, 73, 34, 1, 0);
        row("deed 1", deed(x, 1), 0, 0, 0, 0, 128, 1, 0);
        row("deed 2", deed(x, 2), 0, 0, 128, 128, 0, 0, 0);
        x.act(1);
        x.act(1);
        row("deed 0", deed(x, 0), 1, 130, 5, 73, 34, 0, 0);
        row("deed 1", deed(x, 1), 0, 0, 0, 0, 128, 1, 2);
        row("deed 2", deed(x, 2), 0, 0, 128, 128, 0, 1, 0);
    }

    private static void links() {
        WantPlots x = Check.worldOf("p+h,p-h;a:0>ab,1a>c,0abc>-a,1-a>d,0b-ah>e,1>b");
        x.act(1);
        x.act(0);
        x.act(1);
        x.act(2);
        x.act(5);
        x.fate(0);
        x.fate(0);
        x.act(3);
        x.act(4);
        row("a need that was met at first", step(x, 0), 1, 1, -1, 5, 0, 0, 0, 1, 0);
        row("no needs", step(x, 1), 0, 0, -1, 7, 0, 0, 1, 0, 0);
        row("made true again", step(x, 2), 1, 1, -1, 7, 2, 2, 1, 1, 0);
        row("three needs met by two steps", step(x, 3), 2, 0, -1, 6, 6, 6, 1, 1, 0);
        row("no needs, though the fact was true", step(x, 4), 5, 1, -1, 6, 0, 0, 2, 1, 0);
        row("fate", step(x, 5), -1, -1, 0, 7, 0, 0, 3, 1, 0);
        row("fate back", step(x, 6), -1, -1, 0, 6, 0, 0, 2, 0, 0);
        row("linked to fate", step(x, 7), 3, 1, -1, 14, 64, 64, 2, 1, 0);
        row("linked to fate and the latest act", step(x, 8), 4, 0, -1, 30, 80, 80, 2, 1, 0);
        row("the story", story(x), 4, 7, 0, 0, 2, 6, 4);
    }

    private static void threads() {
        WantPlots x = Check.worldOf("p+h;:0>a,0>b,0>c,0ac>d,0d>e,0be>f");
        x.act(0);
        x.act(1);
        x.act(2);
        Check.due("threads apart", x.story(0), 3);
        x.act(3);
        row("joined threads", new int[] {x.story(0), x.step(0, 6), x.step(1, 6), x.step(2, 6), x.step(3, 6)},
                2, 0, 1, 0, 0);
        x.act(4);
        Check.due("dependence at one remove", x.step(4, 5), 13);
        Check.due("the nearest links alone", x.step(4, 4), 8);
        x.act(5);
        Check.due("one thread", x.story(0), 1);
        Check.due("the thread of the second step", x.step(1, 6), 0);
        Check.due("dependence on all", x.step(5, 5), 31);
        row("the story", story(x), 1, 1, 0, 0, 0, 5, 4);
    }

    private static void threadsApartAgain() {
        WantPlots x = Check.worldOf("p+h;:0>a,0>b,0ab>c");
        x.act(1);
        x.act(0);
        x.act(2);
        Check.due("joined", x.story(0), 1);
        Check.due("the thread of the second step", x.step(1, 6), 0);
        x.undo();
        Check.due("apart again", x.story(0), 2);
        Check.due("the thread of the second step", x.step(1, 6), 1);
        x.fate(2);
        Check.due("the thread of fate", x.step(2, 6), 2);
        x.undo();
        x.undo();
        x.undo();
        row("no steps", story(x), 0, 0, 0, 0, 0, 0, 0);
    }

    private static void dullSteps() {
        WantPlots x = Check.worldOf("p+c,p-d;:0>a,0a>b,0b>c,1>e,1-e>d");
        x.act(0);
        x.act(3);
        x.act(1);
        x.act(2);
        row("dull steps", new int[] {x.step(0, 7), x.step(1, 7), x.step(2, 7), x.step(3, 7)}, 0, 1, 0, 0);
        row("the story", story(x), 2, 1, 3, 13, 3, 2, 2);
        x.act(2);
        row("done twice", new int[] {x.step(0, 7), x.step(1, 7), x.step(2, 7), x.step(3, 7), x.step(4, 7)},
                0, 1, 0, 1, 1);
        row("the first of two is left out", story(x), 2, 3, 3, 21, 3, 3, 2);
        WantPlots y = Check.worldOf("p+a,p-b;:0>ab,0>-b,0-b>c");
        y.act(0);
        y.act(1);
        y.act(2);
        row("a goal that a step spoils", new int[] {y.step(0, 7), y.step(1, 7), y.step(2, 7)}, 0, 0, 1);
        row("the story", story(y), 2, 1, 2, 3, 3, 1, 1);
    }

    private static void minimalStories() {
        WantPlots x = Check.worldOf("p+h;:0>a,0a>b,0b>-a,0-a>c");
        x.act(0);
        x.act(1);
        x.act(2);
        x.act(3);
        row("without final goals", story(x), 1, 1, 0, 0, 0, 3, 1);
        WantPlots y = Check.worldOf("p+d,p+e;:0>a,0>b,0a>d,0b>e,0>d");
        y.act(0);
        y.act(2);
        y.act(1);
        y.act(4);
        row("steps that are dull only later", story(y), 3, 3, 1, 8, 1, 1, 1);
        y.act(3);
        row("with another goal", story(y), 3, 2, 3, 28, 3, 2, 2);
    }

    private static void fateInMinimalStories() {
        WantPlots x = Check.worldOf("p+a,p-b;b:0-b>a");
        x.fate(1);
        x.act(0);
        row("fate that is needed", story(x), 1, 0, 2, 3, 3, 1, 1);
        x.fate(1);
        x.fate(1);
        row("fate to and fro", story(x), 3, 1, 2, 3, 3, 1, 1);
        row("fate to and fro", new int[] {x.step(0, 7), x.step(1, 7), x.step(2, 7), x.step(3, 7)}, 0, 0, 1, 0);
        WantPlots y = Check.worldOf("p+a;:0b>a");
        y.fate(1);
        y.fate(1);
        y.fate(1);
        y.act(0);
        row("fate makes its fact so as it did", story(y), 3, 2, 2, 12, 1, 1, 1);
    }
}
