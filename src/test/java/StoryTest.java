/** Promises 6 to 9: turns, fate, acts out of turn, and what is undone. */
public final class StoryTest {
    public static void main(String[] args) {
        errorsWithoutWorld();
        plainOnes();
        idleOnes();
        slyOnes();
        slyOnesThatDoNotFoil();
        keenOnes();
        fullStory();
        fates();
        acts();
        undone();
        undoneAndReplaced();
        tenActs();
        Check.end("StoryTest");
    }

    private static void errorsWithoutWorld() {
        WantPlots x = new WantPlots();
        for (int n : new int[] {0, 21, -1, Integer.MIN_VALUE, Integer.MAX_VALUE}) {
            Check.due("go " + n, x.go(n), -102);
        }
        Check.due("go 1", x.go(1), -103);
        Check.due("go 20", x.go(20), -103);
        Check.due("fate", x.fate(0), -103);
        Check.due("fate of no fact", x.fate(-1), -103);
        Check.due("act", x.act(0), -103);
        Check.due("act that is none", x.act(-1), -103);
        Check.due("undo", x.undo(), -103);
        Check.due("digest", x.digest(), 1417343378557L);
    }

    /** Asks for the acts of all steps, and the turns of them. */
    private static void steps(String name, WantPlots x, int[] acts, int[] turns) {
        Check.due(name + ": steps", x.about(2), acts.length);
        for (int i = 0; i < acts.length; i++) {
            Check.due(name + ": act of step " + i, x.step(i, 0), acts[i]);
            Check.due(name + ": turn of step " + i, x.step(i, 8), turns[i]);
        }
    }

    private static void plainOnes() {
        WantPlots x = Check.worldOf("p+c,p+h;:0>a,0a>b,0b>c-b");
        Check.due("plain: go 0", x.go(0), -102);
        Check.due("plain: go 21", x.go(21), -102);
        Check.due("plain: go", x.go(4), 2);
        Check.due("plain: go", x.go(3), 1);
        Check.due("plain: go", x.go(20), 0);
        Check.due("plain: next turn", x.about(3), 27);
        Check.due("plain: turns passed", x.count(4), 27);
        Check.due("plain: facts", x.about(4), 5);
        steps("plain", x, new int[] {0, 1, 2}, new int[] {0, 2, 4});
        WantPlots y = Check.worldOf("p+c;:0>b,0>a,0b>c,0a>c");
        y.go(2);
        steps("the first of two plans", y, new int[] {0, 2}, new int[] {0, 1});
        WantPlots z = Check.worldOf("p+c;:0>b,0b>a,0a>c,0>c");
        z.go(1);
        steps("the shortest plan", z, new int[] {3}, new int[] {0});
    }

    private static void idleOnes() {
        WantPlots x = Check.worldOf("i+b;:0>a,0a>b");
        Check.due("idle: go in round 0", x.go(1), 1);
        Check.due("idle: go in round 1", x.go(1), 0);
        Check.due("idle: go in round 2", x.go(1), 1);
        steps("idle", x, new int[] {0, 1}, new int[] {0, 2});
        for (int round = 3; round < 9; round++) {
            if (x.about(6) != 0) {
                x.fate(1);
            }
            Check.due("idle: go in round " + round, x.go(1), round % 2 == 0 ? 1 : 0);
        }
        WantPlots y = Check.worldOf("i+c,i+d;:0>a,0a>c,1>b,1b>d");
        Check.due("two idle ones: go in round 0", y.go(2), 2);
        Check.due("two idle ones: go in round 1", y.go(2), 0);
        Check.due("two idle ones: what would be done", y.one(0, 7), 1);
        Check.due("two idle ones: go in round 2", y.go(2), 2);
        steps("two idle ones", y, new int[] {0, 2, 1, 3}, new int[] {0, 1, 4, 5});
    }

    private static void slyOnes() {
        WantPlots x = Check.worldOf("s+d,p+b;a:0>d,0a>-a,1a>b");
        Check.due("sly: what would be done", x.one(0, 7), 1);
        Check.due("sly: go", x.go(6), 2);
        steps("sly", x, new int[] {1, 0}, new int[] {0, 2});
        WantPlots last = Check.worldOf("p+b,p+h,s+d;a:2>d,2a>-a,0h>h,0a>b");
        Check.due("the rival of the last one is the first one", last.one(2, 7), 1);
        WantPlots middle = Check.worldOf("p+b,s+d,p+h;a:1>d,1a>-a,0a>b");
        Check.due("the rival is no other than the next one", middle.one(1, 7), 0);
        WantPlots longer = Check.worldOf("s+d,p+b;a:0>d,0>c,0c>-a,1a>b");
        Check.due("the first act of a longer foil", longer.one(0, 7), 1);
        longer.go(3);
        steps("the rival was faster", longer, new int[] {1, 3, 0}, new int[] {0, 1, 2});
        WantPlots keen = Check.worldOf("s+d,k+b;:0>d,0>-c,1c>b,0>b-a");
        Check.due("sly: the rival has no plan", keen.one(0, 7), 0);
        keen.act(3);
        keen.fate(1);
        keen.act(3);
        keen.fate(1);
        Check.due("sly: the rival has learnt a plan that cannot be foiled", keen.one(0, 7), 0);
    }

    private static void slyOnesThatDoNotFoil() {
        WantPlots alone = Check.worldOf("s+a;:0>b,0>a");
        Check.due("sly and alone", alone.go(1), 1);
        Check.due("sly and alone: the act", alone.step(0, 0), 1);
        WantPlots content = Check.worldOf("s+d,p+b;ad:0>d,0a>-a,1a>b");
        Check.due("sly and satisfied", content.one(0, 7), -1);
        WantPlots rivalContent = Check.worldOf("s+d,p+b;ab:0a>-a,0>-b,0>d,1a>b");
        Check.due("the rival is satisfied", rivalContent.one(0, 7), 2);
        WantPlots noFoil = Check.worldOf("s+d,p+b;a:0>c,0>d,0>-a,1>b");
        Check.due("there is no foil", noFoil.one(0, 7), 1);
        WantPlots nothing = Check.worldOf("s+d,p+b;a:0>c,1>b");
        Check.due("neither foil nor plan", nothing.one(0, 7), -1);
        WantPlots plain = Check.worldOf("p+d,p+b;a:0>d,0a>-a,1a>b");
        Check.due("plain ones do not foil", plain.one(0, 7), 0);
    }

    private static void keenOnes() {
        WantPlots x = Check.worldOf("k+b,p+a;:1>c,0a>d,1>b-a");
        Check.due("keen: nothing learnt", x.one(0, 3), 2);
        x.act(2);
        x.fate(1);
        Check.due("keen: seen once", x.one(0, 3), 2);
        Check.due("keen: no plan", x.one(0, 7), -1);
        x.act(2);
        x.fate(1);
        Check.due("keen: seen twice", x.one(0, 3), 6);
        Check.due("keen: the learnt act", x.go(1), 1);
        Check.due("keen: whose act it is", x.step(4, 1), 1);
        Check.due("keen: own steps", x.one(0, 4), 0);
        Check.due("keen: steps of the other one", x.one(1, 4), 3);
        Check.due("keen: the other one's repertoire", x.one(1, 3), 5);
        x.undo();
        x.undo();
        x.undo();
        Check.due("keen: forgotten with what was undone", x.one(0, 3), 2);
        WantPlots plain = Check.worldOf("p+b,p+a;:1>c,0a>d,1>b-a");
        plain.act(2);
        plain.act(2);
        plain.act(2);
        Check.due("plain ones do not learn", plain.one(0, 3), 2);
    }

    private static void fullStory() {
        WantPlots x = Check.worldOf("p+a,p-a;:0-a>a,1a>-a");
        Check.due("full: go", x.go(20), 20);
        Check.due("full: go", x.go(20), 10);
        Check.due("full: next turn", x.about(3), 30);
        Check.due("full: go on", x.go(20), 0);
        Check.due("full: next turn still", x.about(3), 30);
        Check.due("full: turns passed", x.count(4), 30);
        Check.due("full: go out of range", x.go(21), -102);
        Check.due("full: fate", x.fate(0), -104);
        Check.due("full: fate of no fact", x.fate(8), -101);
        Check.due("full: act", x.act(0), -104);
        Check.due("full: act that cannot be done", x.act(1), -102);
        Check.due("full: act that is none", x.act(2), -101);
        Check.due("full: steps", x.about(2), 30);
        Check.due("full: thread of the last step", x.step(29, 6), 0);
        Check.due("full: dependence of the last step", x.step(29, 5), (1 << 29) - 1);
        Check.due("full: undo", x.undo(), 29);
        Check.due("full: one step more", x.go(20), 1);
        Check.due("full: two turns more", x.about(3), 32);
        Check.due("full: the turn of the last step", x.step(29, 8), 31);
    }

    private static void fates() {
        WantPlots x = Check.worldOf("p+a;b:0>a");
        for (int fact : new int[] {-1, 8, 32, Integer.MIN_VALUE, Integer.MAX_VALUE}) {
            Check.due("fate " + fact, x.fate(fact), -101);
        }
        Check.due("fate 0", x.fate(0), 1);
        Check.due("fate 1", x.fate(1), 2);
        Check.due("fate 7", x.fate(7), 3);
        Check.due("facts after fate", x.about(4), 129);
        Check.due("the turn is not over", x.about(3), 0);
        Check.due("fate back", x.fate(0), 4);
        Check.due("facts after fate back", x.about(4), 128);
        Check.due("facts at first", x.about(5), 2);
        for (int step = 0; step < 4; step++) {
            Check.due("fate's act", x.step(step, 0), -1);
            Check.due("fate's character", x.step(step, 1), -1);
        }
    }

    private static void acts() {
        WantPlots x = Check.worldOf("p+h,i+g;bc:0ab>d,1b-a>a,1-b>e,0c>-c");
        for (int act : new int[] {-1, 4, 10, Integer.MIN_VALUE, Integer.MAX_VALUE}) {
            Check.due("act " + act, x.act(act), -101);
        }
        Check.due("a true fact is missing", x.act(0), -102);
        Check.due("a false fact is missing", x.act(2), -102);
        Check.due("nothing was done", x.about(2), 0);
        Check.due("act 1", x.act(1), 1);
        Check.due("act 1 again", x.act(1), -102);
        Check.due("act 0", x.act(0), 2);
        Check.due("act 0 again", x.act(0), 3);
        Check.due("act 3", x.act(3), 4);
        Check.due("facts after acts", x.about(4), 11);
        Check.due("the turn is not over", x.about(3), 0);
        Check.due("whose step it is", x.step(0, 1), 1);
        Check.due("whose step it is", x.step(1, 1), 0);
        Check.due("no turn has passed", x.count(4), 0);
    }

    private static void undone() {
        WantPlots x = Check.worldOf("p+c;b:0>a,0a>b-a,0b>c");
        Check.due("undo without steps", x.undo(), -103);
        x.go(1);
        x.fate(0);
        x.act(1);
        x.go(2);
        Check.due("facts before undo", x.about(4), 6);
        Check.due("undo", x.undo(), 2);
        Check.due("facts after undo", x.about(4), 7);
        Check.due("undo", x.undo(), 1);
        Check.due("facts after undo", x.about(4), 6);
        Check.due("undo", x.undo(), 0);
        Check.due("facts after undo", x.about(4), 2);
        Check.due("undo without steps", x.undo(), -103);
        Check.due("the next turn stays", x.about(3), 3);
        Check.due("steps undone", x.count(5), 3);
        Check.due("acts undone", x.deed(2, 6), 0);
        Check.due("acts undone", x.deed(0, 6), 0);
        x.act(2);
        x.undo();
        x.fate(0);
        x.undo();
        x.fate(6);
        Check.due("fate in the place of an act: facts", x.about(4), 66);
        Check.due("fate in the place of an act: the fact", x.step(0, 2), 6);
        Check.due("fate in the place of an act: the act", x.step(0, 0), -1);
        x.fate(0);
        Check.due("fate in the place of an act: the first one is dull", x.step(0, 7), 1);
        x.undo();
        x.undo();
        x.act(0);
        x.act(1);
        x.act(2);
        Check.due("linked once", x.step(2, 4), 2);
        Check.due("depends on two", x.step(2, 5), 3);
        x.undo();
        x.fate(3);
        Check.due("fate in the place of a linked act: links", x.step(2, 4), 0);
        Check.due("fate in the place of a linked act: dependence", x.step(2, 5), 0);
        Check.due("fate in the place of a linked act: thread", x.step(2, 6), 1);
        Check.due("fate in the place of a linked act: nothing is needed", x.step(1, 7), 1);
    }

    private static void undoneAndReplaced() {
        WantPlots x = Check.worldOf("p+c;:0-a>a");
        x.fate(3);
        x.act(0);
        Check.due("done", x.deed(0, 6), 1);
        x.undo();
        Check.due("done and undone", x.deed(0, 6), 0);
        x.undo();
        x.fate(0);
        x.fate(1);
        x.fate(3);
        Check.due("fate needs nothing to be false", x.step(2, 7), 1);
    }

    private static void tenActs() {
        WantPlots x = Check.worldOf("k+h,p-h;:0>a,0>b,0>c,0>d,0>e,1>a,1>b,1>c,1>d,1>h");
        Check.due("ten acts: the first one's", x.one(0, 3), 31);
        Check.due("ten acts: the second one's", x.one(1, 3), 992);
        x.act(9);
        Check.due("ten acts: the last one", x.act(9), 2);
        Check.due("ten acts: the eleventh", x.act(10), -101);
        Check.due("ten acts: learnt", x.one(0, 3), 31 + 512);
        Check.due("ten acts: steps", x.one(1, 4), 2);
        Check.due("ten acts: own steps", x.one(0, 4), 0);
        x.fate(7);
        Check.due("ten acts: the learnt act", x.one(0, 7), 9);
    }
}
