/**
 * The boundary cases of plans, sentence by sentence: what the description says of plans, foils and
 * repertoires, and promises 12, 13, 17 and 18. Each method tests one sentence, whose words it names.
 */
public final class PlanEdgesTest {
    /** A counter in base two: the goal needs 64 acts, in the order of a ruler's marks. */
    private static final String LONG_PLAN =
            "p+g;:0>a,0a>b-a,0ab>c-ab,0abc>d-abc,0abcd>e-abcd,0abcde>f-abcde,0abcdef>g-abcdef";
    private static final int[] ODD = {-2, -3, -101, 64, 255, 256, 1000, Integer.MIN_VALUE, Integer.MAX_VALUE};

    public static void main(String[] args) {
        shortestPlan();
        firstPlan();
        planByTurns();
        emptyPlan();
        noPlan();
        longPlan();
        stateOfAllFacts();
        stateOfNoFact();
        shortestFoil();
        firstFoil();
        emptyFoil();
        noFoil();
        foilOfASatisfiedOne();
        foilByRepertoires();
        foilThroughAllStates();
        ownActs();
        seenTwice();
        presentStory();
        planOfNobody();
        planPlaces();
        foilOfNobody();
        foilOfOneself();
        foilPlaces();
        foilKinds();
        togetherWithoutWorld();
        togetherNumber();
        togetherSatisfied();
        togetherPlaces();
        togetherNone();
        togetherFirst();
        togetherFromNow();
        waysWithoutWorld();
        waysAtLeastZero();
        waysAtMostTwelve();
        waysOfNoAct();
        waysModulo();
        waysWithoutEnd();
        waysFromNow();
        Check.end("PlanEdgesTest");
    }

    // ---- the description: plans

    private static void plan(WantPlots x, int who, int... acts) {
        Check.due("the length of the plan of " + who, x.one(who, 5), acts.length);
        Check.row("the plan of " + who, place -> x.plan(who, place), acts);
        Check.due("behind the plan of " + who, x.plan(who, acts.length), -101);
    }

    private static void shortestPlan() {
        Check.sentence("Description", "is a sequence of as few of these acts as possible");
        plan(Check.worldOf("p+c;:0>a,0a>b,0b>c,0>c"), 0, 3);
        plan(Check.worldOf("p+c;:0>a,0a>b,0b>c,0>d,0d>c"), 0, 3, 4);
        plan(Check.worldOf("p-c;c:0>a,0a>-c,0>-c"), 0, 2);
    }

    private static void firstPlan() {
        Check.sentence("Description", "of several, the lexicographically first one: of a plan");
        plan(Check.worldOf("p+c;:0>c,0>c,0>c"), 0, 0);
        plan(Check.worldOf("p+d;:0b>d,0c>d,0>c,0>b"), 0, 2, 1);
        plan(Check.worldOf("p+e;:0>a,0ab>e,0>b,0ac>e,0>c"), 0, 0, 2, 1);
        plan(Check.worldOf("p+e;:0cd>e,0>d,0>c,0>b"), 0, 1, 2, 0);
        plan(Check.worldOf("p+a;:0b>a,0b>a,0>b,0>b,0>b,0>b,0>b,0>b,0>b,0>b"), 0, 2, 0);
    }

    private static void planByTurns() {
        Check.sentence("Description", "each of which can be done then, one after the other");
        WantPlots x = Check.worldOf("p+c;:0ab>c,0-a>b,0>a-b,0b>a");
        plan(x, 0, 1, 3, 0);
        Check.due("go", x.go(3), 3);
        Check.row("the act of step", step -> x.step(step, 0), 1, 3, 0);
        Check.due("satisfied", x.about(6), 1);
    }

    private static void emptyPlan() {
        Check.sentence("Description", "It is empty if the goal is satisfied already.");
        for (String text : new String[] {"p+a;a:0>a", "p-a;:0>a", "p-h;abcdefg:0>h", "p+h;h:0>a"}) {
            WantPlots x = Check.worldOf(text);
            Check.due("one 5 of " + text, x.one(0, 5), 0);
            Check.due("one 6 of " + text, x.one(0, 6), -1);
            Check.due("plan of " + text, x.plan(0, 0), -101);
        }
    }

    private static void noPlan() {
        Check.sentence("Description", "There may be no plan.");
        for (String text : new String[] {"p+a;:0>b", "p-a;a:0>b", "p+a,p+b;:1>a", "p+c;:0b>c,0-b>a"}) {
            WantPlots x = Check.worldOf(text);
            Check.due("one 5 of " + text, x.one(0, 5), -1);
            Check.due("one 6 of " + text, x.one(0, 6), -1);
            Check.due("plan of " + text, x.plan(0, 0), -101);
        }
    }

    private static void longPlan() {
        Check.sentence("Description", "as few of these acts as possible: a long plan");
        int[] ruler = new int[64];
        for (int place = 0; place < 64; place++) {
            ruler[place] = Integer.numberOfTrailingZeros(place + 1);
        }
        WantPlots x = Check.worldOf(LONG_PLAN);
        plan(x, 0, ruler);
        Check.due("together", x.together(-1), 64);
        Check.row("together", x::together, ruler);
        Check.due("behind the way", x.together(64), -101);
    }

    private static void stateOfAllFacts() {
        Check.sentence("Description", "in a state of the facts: all are true");
        WantPlots x = Check.worldOf("p-a,p-h;abcdefgh:0abcdefgh>-h,0abcdefg-h>-a,1h>-h");
        plan(x, 0, 0, 1);
        plan(x, 1, 2);
        foil(x, 0, 1);
        Check.row("together", place -> x.together(place - 1), 2, 0, 1, -101);
        Check.row("ways", x::ways, 0, 0, 2, 0);
        WantPlots to = Check.worldOf("p+a,p+h;bcdefg:0>a,1>h");
        Check.row("together to all facts", place -> to.together(place - 1), 2, 0, 1, -101);
        Check.row("ways to all facts", to::ways, 0, 0, 2, 6);
        WantPlots foiled = Check.worldOf("p+b,p-a;abcdefg:0>h,1abcdefg-h>-a");
        foil(foiled, 0, 1, 0);
    }

    private static void stateOfNoFact() {
        Check.sentence("Description", "in a state of the facts: none is true");
        WantPlots x = Check.worldOf("p+h,p-a;:0-abcdefgh>g,0g-abcdefh>h");
        plan(x, 0, 0, 1);
        WantPlots to = Check.worldOf("p-a,p-h;ah:0a>-a,1h>-h");
        Check.row("together to no fact", place -> to.together(place - 1), 2, 0, 1, -101);
        Check.row("ways to no fact", to::ways, 0, 0, 2, 0);
        WantPlots foiled = Check.worldOf("p+b,p+h;a:0>-a,1a-bcdefgh>h");
        foil(foiled, 0, 1, 0);
    }

    // ---- the description: foils

    private static void foil(WantPlots x, int who, int against, int... acts) {
        Check.row("the foil of " + who, place -> x.foil(who, against, place), acts);
        Check.due("behind the foil of " + who, x.foil(who, against, acts.length), -101);
    }

    private static void shortestFoil() {
        Check.sentence("Description", "is a sequence of as few acts of the first one's repertoire as possible");
        foil(Check.worldOf("p+h,p+b;a:0>c,0c>-a,0>-a,1a>b"), 0, 1, 2);
        foil(Check.worldOf("p+h,p+b;a:0>c,0c>d,0d>-a,0>e,0e>-a,1a>b"), 0, 1, 3, 4);
        foil(Check.worldOf("p+h,p+b;a:0>c,0c>d,0d>-a,1a>b"), 0, 1, 0, 1, 2);
    }

    private static void firstFoil() {
        Check.sentence("Description", "of several, the lexicographically first one: of a foil");
        foil(Check.worldOf("p+h,p+b;a:0>-a,0>-a,1a>b"), 0, 1, 0);
        foil(Check.worldOf("p+h,p+b;a:0d>-a,0c>-a,0>c,0>d,1a>b"), 0, 1, 2, 1);
        foil(Check.worldOf("p+h,p+b;a:0cd>-a,0>d,0>c,1a>b"), 0, 1, 1, 2, 0);
    }

    private static void emptyFoil() {
        Check.sentence("Description", "It is empty if the other one has no plan already.");
        WantPlots x = Check.worldOf("p+h,p+b;:0>-a,1a>b");
        Check.due("the other one has no plan", x.one(1, 5), -1);
        Check.due("the foil is empty", x.foil(0, 1, 0), -101);
        x.fate(0);
        foil(x, 0, 1, 0);
        WantPlots none = Check.worldOf("p+h,p+b;a:0a>-a");
        Check.due("the other one has no acts", none.foil(0, 1, 0), -101);
    }

    private static void noFoil() {
        Check.sentence("Description", "There may be no foil.");
        WantPlots unneeded = Check.worldOf("p+h,p+b;a:0>-a,1>b");
        Check.row("the other one needs nothing", place -> unneeded.foil(0, 1, place), -101, -101, -101);
        WantPlots idle = Check.worldOf("p+h,p+b;a:1a>b,1>-a");
        Check.due("the first one has no acts", idle.foil(0, 1, 0), -101);
        WantPlots late = Check.worldOf("p+h,p+b;b:0>-a,1a>c");
        Check.due("the goal is satisfied for ever", late.foil(0, 1, 0), -101);
    }

    private static void foilOfASatisfiedOne() {
        Check.sentence("Description", "so that at the end the other one has no plan");
        foil(Check.worldOf("p+h,p+b;ab:0>-b,0>-a,1a>b"), 0, 1, 0, 1);
        foil(Check.worldOf("p+h,p-b;:0>b,1c>-b"), 0, 1, 0);
        foil(Check.worldOf("p+h,p+b;a:0>-c,0>-a,1a>b,1c>b"), 0, 1, 1);
        foil(Check.worldOf("p+h,p+b;ac:0>-c,0>-a,1a>b,1c>b"), 0, 1, 0, 1);
    }

    private static void foilByRepertoires() {
        Check.sentence("Description", "no plan by that one's repertoire");
        WantPlots x = Check.worldOf("k+h,k+b;a:0a>-a,1a>b,0>b,1>-a");
        foil(x, 0, 1, 0);
        Check.acts(x, 2);
        x.fate(1);
        foil(x, 0, 1, 0);
        Check.acts(x, 2);
        x.fate(1);
        Check.due("the other one has learnt an act that needs nothing", x.foil(0, 1, 0), -101);
        x.undo();
        x.undo();
        foil(x, 0, 1, 0);
        WantPlots y = Check.worldOf("k+h,p+b;a:1a>b,1>-a,0>c");
        Check.due("the first one knows no foil", y.foil(0, 1, 0), -101);
        Check.acts(y, 1, 1);
        y.fate(0);
        foil(y, 0, 1, 1);
    }

    /**
     * False facts are holes: each act but the first one and the last one moves a hole to the fact
     * before, where it may meet another hole. So all 256 states can be reached, the one without holes
     * last; in any other one, whoever can move holes can make a false. The last act leaves the first
     * state as it is.
     */
    private static void foilThroughAllStates() {
        Check.sentence("Description", "as few acts of the first one's repertoire as possible: the last of all states");
        WantPlots x = Check.worldOf("p+a,k-a;:0>a,0-b>b-a,0-c>c-b,0-d>d-c,0-e>e-d,0-f>f-e,0-g>g-f,0-h>h-g,0>-a");
        Check.acts(x, 1, 2, 1, 3, 2, 4, 3, 5, 4, 6, 5, 7, 6);
        Check.fates(x, 7);
        Check.acts(x, 7);
        Check.due("the other one has learnt to move holes", x.one(1, 3), 254);
        for (int fact = 0; fact < 8; fact++) {
            if ((x.about(4) >> fact & 1) != 0) {
                Check.fates(x, fact);
            }
        }
        Check.due("no fact is true", x.about(4), 0);
        foil(x, 0, 1, 7, 6, 5, 4, 3, 2, 1, 0);
        Check.acts(x, 7, 6, 5, 4, 3, 2);
        foil(x, 0, 1, 1, 0);
        Check.acts(x, 1);
        Check.due("the other one is satisfied", x.one(1, 5), 0);
        foil(x, 0, 1, 0);
        Check.due("steps", x.about(2) <= 29 ? 1 : 0, 1);
        Check.acts(x, 0);
        Check.due("all facts are true", x.about(4), 255);
        Check.due("the other one has no plan", x.one(1, 5), -1);
        foil(x, 0, 1);
    }

    // ---- the description: repertoires

    private static void ownActs() {
        Check.sentence("Description", "The repertoire of a character consists of the own acts");
        WantPlots x = Check.worldOf("p+a,s+a,k+a,i+a;:3>b,1>b,1>b,0>b,3>b,0>b,0>b,0>b,0>b,1>b");
        Check.row("the repertoire of", who -> x.one(who, 3), 488, 518, 0, 17);
        WantPlots all = Check.worldOf("p+a;:0>b,0>b,0>b,0>b,0>b,0>b,0>b,0>b,0>b,0>b");
        Check.due("the repertoire of all acts", all.one(0, 3), 1023);
    }

    private static void seenTwice() {
        Check.sentence("Description", "that of a keen one also contains the acts of others that occur at least twice as"
                + " steps");
        WantPlots x = Check.worldOf("k+h,p+a,s+a,i+a;:1>b,0>c,2>b,1>d");
        int[] afterTimes = {2, 2, 3, 3, 3};
        for (int times = 0; times < afterTimes.length; times++) {
            Check.due("seen " + times + " times", x.one(0, 3), afterTimes[times]);
            Check.acts(x, 0);
        }
        Check.acts(x, 1, 2, 3, 1, 1);
        Check.due("two acts that were seen once each", x.one(0, 3), 3);
        Check.acts(x, 2, 3);
        Check.due("all were seen twice", x.one(0, 3), 15);
        Check.row("who is not keen learns nothing", who -> x.one(who, 3), 15, 9, 4, 0);
    }

    private static void presentStory() {
        Check.sentence("Description", "of the present story");
        WantPlots x = Check.worldOf("k+h,p+a;:1>h,0>c");
        Check.acts(x, 0, 0);
        Check.due("seen twice", x.one(0, 3), 3);
        x.undo();
        Check.due("undone", x.one(0, 3), 2);
        Check.acts(x, 0);
        Check.write(x, "k+h,p+a;:1>h,0>c");
        x.world();
        Check.due("another story", x.one(0, 3), 2);
        Check.acts(x, 0);
        Check.due("seen once in this story", x.one(0, 3), 2);
        WantPlots turns = Check.worldOf("k+b,p+a;:1-a>a");
        turns.go(2);
        turns.fate(0);
        turns.go(2);
        Check.due("seen twice in turns", turns.one(0, 3), 1);
    }

    // ---- promise 12

    private static void planOfNobody() {
        Check.sentence("Promise 12", "UNKNOWN if there is no such character");
        WantPlots none = new WantPlots();
        Check.due("plan without a world", none.plan(0, 0), -101);
        Check.due("plan without a world", none.plan(-1, -1), -101);
        WantPlots x = Check.worldOf("p+a,p+a;:0>a,1>a");
        for (int who : new int[] {-1, 2, 3, 4, 32, Integer.MIN_VALUE, Integer.MAX_VALUE}) {
            Check.refused(x, "plan of " + who, () -> x.plan(who, 0), -101);
        }
        Check.row("plan of", who -> x.plan(who, 0), 0, 1);
    }

    private static void planPlaces() {
        Check.sentence("Promise 12", "no plan, or no such index");
        WantPlots x = Check.worldOf("p+b,p+h,p-h;:0>a,0a>b");
        Check.row("the plan", place -> x.plan(0, place), 0, 1, -101, -101);
        Check.due("place -1", x.plan(0, -1), -101);
        for (int place : ODD) {
            Check.refused(x, "place " + place, () -> x.plan(0, place), -101);
        }
        Check.due("no plan", x.plan(1, 0), -101);
        Check.due("the empty plan", x.plan(2, 0), -101);
        x.plan(0, 0);
        Check.due("no plan, after that of another one", x.plan(1, 0), -101);
        Check.due("the empty plan, after that of another one", x.plan(2, 0), -101);
    }

    // ---- promise 13

    private static void foilOfNobody() {
        Check.sentence("Promise 13", "UNKNOWN if there is no such character");
        WantPlots none = new WantPlots();
        Check.due("foil without a world", none.foil(0, 1, 0), -101);
        WantPlots x = Check.worldOf("p+b,p+b;a:0>-a,1>-a,0a>b,1a>b");
        for (int who : new int[] {-1, 2, 3, 4, 32, Integer.MIN_VALUE, Integer.MAX_VALUE}) {
            Check.refused(x, "foil of " + who, () -> x.foil(who, 0, 0), -101);
            Check.refused(x, "foil against " + who, () -> x.foil(0, who, 0), -101);
        }
        foil(x, 0, 1, 0);
        foil(x, 1, 0, 1);
    }

    private static void foilOfOneself() {
        Check.sentence("Promise 13", "both are the same");
        WantPlots x = Check.worldOf("p+b,p+b,p+b,p+b;a:0>-a,1>-a,2>-a,3>-a,0a>b,1a>b,2a>b,3a>b");
        for (int who = 0; who < 4; who++) {
            Check.due("foil of oneself", x.foil(who, who, 0), -101);
            foil(x, who, (who + 1) % 4, who);
        }
        Check.due("foil of nobody", x.foil(4, 4, 0), -101);
    }

    private static void foilPlaces() {
        Check.sentence("Promise 13", "there is no foil, or it has no such index");
        WantPlots x = Check.worldOf("p+h,p+b,p-b;a:0>c,0c>-a,1a>b");
        Check.row("the foil", place -> x.foil(0, 1, place), 0, 1, -101, -101);
        Check.due("place -1", x.foil(0, 1, -1), -101);
        for (int place : ODD) {
            Check.refused(x, "place " + place, () -> x.foil(0, 1, place), -101);
        }
        Check.due("no foil", x.foil(0, 2, 0), -101);
        Check.due("the empty foil", x.foil(1, 0, 0), -101);
    }

    private static void foilKinds() {
        Check.sentence("Promise 13", "whatever kinds they are");
        for (char kind : "pski".toCharArray()) {
            for (char other : "pski".toCharArray()) {
                WantPlots x = Check.worldOf(kind + "+h," + other + "+b;a:0>c,0c>-a,1a>b");
                Check.row("foil of " + kind + " against " + other, place -> x.foil(0, 1, place), 0, 1, -101);
            }
        }
    }

    // ---- promise 17

    private static void togetherWithoutWorld() {
        Check.sentence("Promise 17", "STATE if there is no world; UNKNOWN if place is not NONE and there is no such index");
        WantPlots x = new WantPlots();
        for (int place : new int[] {-1, 0, 1, -2, Integer.MIN_VALUE, Integer.MAX_VALUE}) {
            Check.refused(x, "together " + place, () -> x.together(place), -103);
        }
    }

    private static void togetherNumber() {
        Check.sentence("Promise 17", "NONE for the number of acts, otherwise an index, from 0");
        WantPlots x = Check.worldOf("p+a,p+b,p-c,p-d;cd:3>-d,2>-c,1>b,0>a");
        Check.due("the number of acts", x.together(WantPlots.NONE), 4);
        Check.row("together", x::together, 0, 1, 2, 3, -101);
    }

    private static void togetherSatisfied() {
        Check.sentence("Promise 17", "Returns the number of acts (0 if all goals are satisfied already)");
        WantPlots x = Check.worldOf("p+a,p+b;a:0>a,1>b");
        Check.due("not all goals are satisfied", x.together(-1), 1);
        x.fate(1);
        Check.due("all goals are satisfied", x.together(-1), 0);
        Check.due("the first act of none", x.together(0), -101);
    }

    private static void togetherPlaces() {
        Check.sentence("Promise 17", "UNKNOWN if place is not NONE and there is no such index");
        WantPlots x = Check.worldOf("p+b;:0>a,0a>b");
        Check.row("together", x::together, 0, 1, -101, -101);
        for (int place : ODD) {
            Check.refused(x, "together " + place, () -> x.together(place), -101);
        }
        WantPlots none = Check.worldOf("p+a,p-a;:0>a,1>-a");
        Check.row("together without a way", none::together, -101, -101);
        Check.due("together without a way", none.together(-2), -101);
    }

    private static void togetherNone() {
        Check.sentence("Promise 17", "NONE if place is NONE and there is no such way");
        Check.due("goals that exclude each other", Check.worldOf("p+a,p-a;:0>a,1>-a").together(-1), -1);
        Check.due("a goal without an act", Check.worldOf("p+a,p+b;:0>a,1>c").together(-1), -1);
        Check.due("acts that spoil each other", Check.worldOf("p+a,p+b;:0>a-b,1>b-a").together(-1), -1);
    }

    private static void togetherFirst() {
        Check.sentence("Promise 17", "of several such sequences the lexicographically first one");
        WantPlots x = Check.worldOf("p+a,p+b;:1>b,0>a,1>ab,0>ab");
        Check.due("the fewest", x.together(-1), 1);
        Check.due("the first of the fewest", x.together(0), 2);
        WantPlots y = Check.worldOf("p+a,p+b;:1d>ab,0c>ab,1>c,0>d");
        Check.due("the fewest", y.together(-1), 2);
        Check.row("the first of the fewest", y::together, 2, 1);
    }

    private static void togetherFromNow() {
        Check.sentence("Promise 17", "as few acts of any characters as possible, each of which can be done then, one after"
                + " the other from now on");
        WantPlots x = Check.worldOf("p+a,p+b,p+h;:2>h,2h>a,2a>b");
        Check.row("together", place -> x.together(place - 1), 3, 0, 1, 2, -101);
        x.go(3);
        Check.row("together", place -> x.together(place - 1), 2, 1, 2, -101);
        x.undo();
        Check.due("together", x.together(-1), 3);
    }

    // ---- promise 18

    private static void waysWithoutWorld() {
        Check.sentence("Promise 18", "STATE if there is no world; OUTSIDE if length is out of range");
        WantPlots x = new WantPlots();
        for (int length : new int[] {0, 12, -1, 13, Integer.MIN_VALUE, Integer.MAX_VALUE}) {
            Check.refused(x, "ways " + length, () -> x.ways(length), -103);
        }
    }

    private static void waysAtLeastZero() {
        Check.sentence("Promise 18", "the number of acts, 0 to 12: too small");
        WantPlots x = Check.worldOf("p+a;a:0>a");
        for (int length : new int[] {-1, -2, -12, Integer.MIN_VALUE}) {
            Check.refused(x, "ways " + length, () -> x.ways(length), -102);
        }
        Check.due("ways 0", x.ways(0), 1);
    }

    private static void waysAtMostTwelve() {
        Check.sentence("Promise 18", "the number of acts, 0 to 12: too large");
        WantPlots x = Check.worldOf("p+a;a:0>a");
        for (int length : new int[] {13, 14, 256, Integer.MAX_VALUE}) {
            Check.refused(x, "ways " + length, () -> x.ways(length), -102);
        }
        Check.due("ways 12", x.ways(12), 1);
    }

    private static void waysOfNoAct() {
        Check.sentence("Promise 18", "Counts the sequences of a number of acts: of none");
        WantPlots x = Check.worldOf("p+a,p-b;a:0>a");
        Check.due("all goals are satisfied", x.ways(0), 1);
        x.fate(1);
        Check.due("one goal is not satisfied", x.ways(0), 0);
        x.fate(0);
        Check.due("no goal is satisfied", x.ways(0), 0);
    }

    private static void waysModulo() {
        Check.sentence("Promise 18", "Returns the number of sequences modulo 1000000");
        WantPlots ten = Check.worldOf("p+a;:0>a,0>a,0>a,0>a,0>a,0>a,0>a,0>a,0>a,0>a");
        Check.row("ten to the power of", ten::ways, 0, 10, 100, 1000, 10000, 100000, 0, 0, 0, 0, 0, 0, 0);
        WantPlots some = Check.worldOf("p+a;:0>a,0>a,0>a,0>a,0>a,0>a,0>a,0>b,0>c,0>d");
        long free = 1;
        long all = 1;
        for (int length = 0; length <= 12; length++) {
            Check.due("ten less three to the power of " + length, some.ways(length), (all - free) % 1000000);
            free *= 3;
            all *= 10;
        }
    }

    private static void waysWithoutEnd() {
        Check.sentence("Promise 18", "after which all goals are satisfied");
        WantPlots never = Check.worldOf("p+a,p-a;:0>a,1>-a");
        Check.row("no way", never::ways, 0, 0, 0, 0, 0, 0, 0, 0, 0, 0, 0, 0, 0);
        WantPlots stuck = Check.worldOf("p+a;:0-a>a");
        Check.row("no act can be done any more", stuck::ways, 0, 1, 0, 0, 0, 0, 0, 0, 0, 0, 0, 0, 0);
        WantPlots swing = Check.worldOf("p+h;:0-h>h,0h>-h");
        Check.row("every second length", swing::ways, 0, 1, 0, 1, 0, 1, 0, 1, 0, 1, 0, 1, 0);
    }

    private static void waysFromNow() {
        Check.sentence("Promise 18", "each of which can be done then, one after the other from now on");
        WantPlots x = Check.worldOf("p+c,p-h;h:0>a,1a>b,0b>c,1>-h");
        Check.row("ways", x::ways, 0, 0, 0, 0, 4);
        Check.acts(x, 0);
        Check.row("ways", x::ways, 0, 0, 0, 3);
        Check.acts(x, 1, 2, 3);
        Check.row("ways", x::ways, 1, 4, 16, 64);
        x.undo();
        Check.row("ways", x::ways, 0, 1);
    }
}
