/**
 * The boundary cases of stories, sentence by sentence: what the description says of turns and of what
 * is done in them, and promises 6 to 9. Each method tests one sentence, whose words it names.
 */
public final class StoryEdgesTest {
    /** In every turn something is done. */
    private static final String BUSY = "p+a,p-a;:0-a>a,1a>-a";
    /** In no turn is anything done, but act 0 can always be done, and changes nothing but once. */
    private static final String RESTING = "p+a;a:0>b";

    public static void main(String[] args) {
        goAtLeastOne();
        goAtMostTwenty();
        goTellsTheSteps();
        goWithoutWorld();
        noTurnBeginsWhenFull();
        fateFacts();
        fateToAndFro();
        fateIsAStep();
        fateTellsTheSteps();
        fateWithoutWorld();
        fateWhenFull();
        actsThatAreNone();
        actThatCannotBeDone();
        actOutOfTurn();
        actTellsTheSteps();
        actWithoutWorld();
        actWhenFull();
        undoWithoutStep();
        undoTellsTheStepsLeft();
        undoBringsFactsBack();
        undoLeavesTheTurn();
        undoMakesRoom();
        undoneActGivesPlaceToFate();
        thirtySteps();
        factsZeroToSeven();
        canBeDone();
        trueFirstThenFalse();
        madeAlready();
        turnsFromZero();
        turnModulo();
        roundDivision();
        satisfiedOnesRest();
        idleOnesRestInOddRounds();
        slyAndAlone();
        rivalIsTheNext();
        rivalAfterTheLast();
        rivalWithoutAct();
        rivalWithoutFoil();
        foilWithoutOwnPlan();
        nothingWithoutPlan();
        planByOwnRepertoire();
        whatIsDoneIsAStep();
        lastOf512Calls();
        turnsOf512Calls();
        Check.end("StoryEdgesTest");
    }

    // ---- promise 6

    private static void goAtLeastOne() {
        Check.sentence("Promise 6", "the number of turns, 1 to 20: too small");
        WantPlots x = Check.worldOf(BUSY);
        for (int n : new int[] {0, -1, -20, Integer.MIN_VALUE, Integer.MIN_VALUE + 1}) {
            Check.refused(x, "go " + n, () -> x.go(n), -102);
        }
        Check.due("go 1", x.go(1), 1);
        Check.due("the next turn", x.about(3), 1);
    }

    private static void goAtMostTwenty() {
        Check.sentence("Promise 6", "the number of turns, 1 to 20: too large");
        WantPlots x = Check.worldOf(BUSY);
        for (int n : new int[] {21, 22, 30, 256 + 1, Integer.MAX_VALUE}) {
            Check.refused(x, "go " + n, () -> x.go(n), -102);
        }
        Check.due("go 20", x.go(20), 20);
        Check.due("the next turn", x.about(3), 20);
    }

    private static void goTellsTheSteps() {
        Check.sentence("Promise 6", "Returns how many steps were added");
        WantPlots none = Check.worldOf(RESTING);
        Check.due("none", none.go(20), 0);
        Check.due("turns have passed", none.about(3), 20);
        Check.due("turns have passed", none.count(4), 20);
        WantPlots two = Check.worldOf("p+b;:0>a,0a>b");
        two.fate(7);
        Check.due("two, beside fate", two.go(20), 2);
        Check.due("none any more", two.go(20), 0);
        Check.due("turns have passed", two.about(3), 40);
    }

    private static void goWithoutWorld() {
        Check.sentence("Promise 6", "OUTSIDE if n is out of range; STATE if there is no world");
        WantPlots x = new WantPlots();
        Check.refused(x, "go 1", () -> x.go(1), -103);
        Check.refused(x, "go 20", () -> x.go(20), -103);
        Check.refused(x, "go 0", () -> x.go(0), -102);
        Check.refused(x, "go 21", () -> x.go(21), -102);
        Check.due("no turn has passed", x.count(4), 0);
    }

    private static void noTurnBeginsWhenFull() {
        Check.sentence("Promise 6", "no turn begins when there are 30 steps");
        WantPlots x = Check.worldOf(BUSY);
        x.go(20);
        Check.due("go to 29 steps", x.go(9), 9);
        Check.due("go to 30 steps", x.go(20), 1);
        Check.due("the next turn", x.about(3), 30);
        Check.due("go on", x.go(20), 0);
        Check.due("go on by one", x.go(1), 0);
        Check.due("the next turn", x.about(3), 30);
        Check.due("turns that have passed", x.count(4), 30);
        WantPlots y = Check.worldOf(RESTING);
        Check.actsUpTo(y, 0, 29);
        Check.due("go with 29 steps", y.go(20), 0);
        Check.due("turns pass with 29 steps", y.about(3), 20);
        Check.actsUpTo(y, 0, 30);
        Check.due("go with 30 steps", y.go(20), 0);
        Check.due("no turn passes with 30 steps", y.about(3), 20);
        Check.due("no turn passes with 30 steps", y.count(4), 20);
    }

    // ---- promise 7

    private static void fateFacts() {
        Check.sentence("Promise 7", "UNKNOWN if there is no such fact");
        WantPlots x = Check.worldOf(RESTING);
        for (int fact : new int[] {-1, 8, 9, 32, -8, 256, Integer.MIN_VALUE, Integer.MAX_VALUE}) {
            Check.refused(x, "fate " + fact, () -> x.fate(fact), -101);
        }
        Check.due("fate 0", x.fate(0), 1);
        Check.due("fate 7", x.fate(7), 2);
        Check.due("the facts", x.about(4), 128);
    }

    private static void fateToAndFro() {
        Check.sentence("Promise 7", "it becomes false if it is true, and true if it is false");
        WantPlots x = Check.worldOf("p+a;abcd:0>a");
        int facts = 15;
        for (int i = 0; i < 24; i++) {
            Check.fates(x, i % 8);
            facts ^= 1 << i % 8;
            Check.due("the facts", x.about(4), facts);
        }
        Check.due("the facts at first", x.about(5), 15);
    }

    private static void fateIsAStep() {
        Check.sentence("Promise 7", "This is a step.");
        WantPlots x = Check.worldOf(RESTING);
        x.go(3);
        x.fate(7);
        Check.row("step 0", what -> x.step(0, what), -1, -1, 7, 129, 0, 0, 0, 1, 3);
        Check.due("steps", x.about(2), 1);
        Check.due("no turn has passed", x.about(3), 3);
        Check.due("it can be undone", x.undo(), 0);
    }

    private static void fateTellsTheSteps() {
        Check.sentence("Promise 7", "Returns the number of steps then: of fate");
        WantPlots x = Check.worldOf(RESTING);
        for (int steps = 1; steps <= 30; steps++) {
            Check.due("fate", x.fate(steps % 8), steps);
            Check.due("steps", x.about(2), steps);
            Check.due("the fact", x.step(steps - 1, 2), steps % 8);
        }
    }

    private static void fateWithoutWorld() {
        Check.sentence("Promise 7", "STATE if there is no world; UNKNOWN if there is no such fact");
        WantPlots x = new WantPlots();
        for (int fact : new int[] {0, 7, -1, 8}) {
            Check.refused(x, "fate " + fact, () -> x.fate(fact), -103);
        }
    }

    private static void fateWhenFull() {
        Check.sentence("Promise 7", "FULL if there are 30 steps");
        WantPlots x = Check.worldOf(RESTING);
        Check.actsUpTo(x, 0, 29);
        Check.due("fate as step 29", x.fate(0), 30);
        Check.refused(x, "fate as step 30", () -> x.fate(0), -104);
        Check.refused(x, "fate 8 as step 30", () -> x.fate(8), -101);
        Check.refused(x, "fate -1 as step 30", () -> x.fate(-1), -101);
    }

    // ---- promise 8

    private static void actsThatAreNone() {
        Check.sentence("Promise 8", "UNKNOWN if there is no such act");
        WantPlots one = Check.worldOf(RESTING);
        for (int act : new int[] {-1, 1, 9, 10, 32, Integer.MIN_VALUE, Integer.MAX_VALUE}) {
            Check.refused(one, "act " + act, () -> one.act(act), -101);
        }
        Check.due("act 0", one.act(0), 1);
        WantPlots ten = Check.worldOf("p+a;:0>a,0>a,0>a,0>a,0>a,0>a,0>a,0>a,0>a,0>b");
        Check.refused(ten, "act 10", () -> ten.act(10), -101);
        Check.due("act 9", ten.act(9), 1);
        Check.due("the facts", ten.about(4), 2);
    }

    private static void actThatCannotBeDone() {
        Check.sentence("Promise 8", "OUTSIDE if it cannot be done now");
        WantPlots x = Check.worldOf("p+h;a:0b>c,0-a>d,0a-b>e,0ab>f");
        Check.refused(x, "a fact is not true", () -> x.act(0), -102);
        Check.refused(x, "a fact is not false", () -> x.act(1), -102);
        Check.refused(x, "one of two facts is not true", () -> x.act(3), -102);
        Check.due("all is as it needs to be", x.act(2), 1);
        x.fate(1);
        Check.refused(x, "a fact is not false any more", () -> x.act(2), -102);
        Check.due("both facts are true now", x.act(3), 3);
    }

    private static void actOutOfTurn() {
        Check.sentence("Promise 8", "Does an act out of turn; it is a step of the character to whom it belongs.");
        WantPlots x = Check.worldOf("p+h,i-h;:1>b,0>c");
        x.go(2);
        Check.due("the act of a satisfied one, who is idle, in round 1", x.act(0), 1);
        Check.due("whose step it is", x.step(0, 1), 1);
        Check.due("steps of the owner", x.one(1, 4), 1);
        Check.due("steps of the other one", x.one(0, 4), 0);
        Check.due("the next turn stays", x.about(3), 2);
        Check.due("no turn passes", x.count(4), 2);
        Check.due("the turn of the step", x.step(0, 8), 2);
    }

    private static void actTellsTheSteps() {
        Check.sentence("Promise 8", "Returns the number of steps then: of an act");
        WantPlots x = Check.worldOf("p+a;a:0>b,0>c");
        for (int steps = 1; steps <= 30; steps++) {
            Check.due("act", x.act(steps % 2), steps);
            Check.due("steps", x.about(2), steps);
            Check.due("the act of the step", x.step(steps - 1, 0), steps % 2);
        }
    }

    private static void actWithoutWorld() {
        Check.sentence("Promise 8", "STATE if there is no world; UNKNOWN if there is no such act");
        WantPlots x = new WantPlots();
        for (int act : new int[] {0, -1, 9, 10}) {
            Check.refused(x, "act " + act, () -> x.act(act), -103);
        }
    }

    private static void actWhenFull() {
        Check.sentence("Promise 8", "FULL if there are 30 steps");
        WantPlots x = Check.worldOf("p+a;a:0>b,0-a>c");
        Check.actsUpTo(x, 0, 30);
        Check.refused(x, "act as step 30", () -> x.act(0), -104);
        Check.refused(x, "an act that cannot be done, as step 30", () -> x.act(1), -102);
        Check.refused(x, "no act as step 30", () -> x.act(2), -101);
        Check.refused(x, "no act as step 30", () -> x.act(-1), -101);
    }

    // ---- promise 9

    private static void undoWithoutStep() {
        Check.sentence("Promise 9", "STATE if there is no step");
        WantPlots x = new WantPlots();
        Check.refused(x, "undo without a world", x::undo, -103);
        Check.write(x, "p+a;a:0>b");
        x.world();
        Check.refused(x, "undo at first", x::undo, -103);
        x.go(5);
        Check.refused(x, "undo of turns without steps", x::undo, -103);
        x.act(0);
        x.undo();
        Check.refused(x, "undo of more than was done", x::undo, -103);
        Check.due("steps undone", x.count(5), 1);
        x.act(0);
        Check.write(x, "p+a;a:0>b");
        x.world();
        Check.refused(x, "undo in a new world", x::undo, -103);
    }

    private static void undoTellsTheStepsLeft() {
        Check.sentence("Promise 9", "Returns the number of steps left");
        WantPlots x = Check.worldOf(BUSY);
        x.go(20);
        x.go(20);
        for (int left = 29; left >= 0; left--) {
            Check.due("undo", x.undo(), left);
            Check.due("steps", x.about(2), left);
            Check.due("the step that was undone", x.step(left, 0), -101);
        }
        Check.due("steps undone", x.count(5), 30);
    }

    private static void undoBringsFactsBack() {
        Check.sentence("Promise 9", "Undoes the last step; the facts are as before it");
        WantPlots x = Check.worldOf("p+h;ac:0>ab-cd");
        Check.acts(x, 0, 0);
        x.fate(0);
        Check.due("the facts", x.about(4), 2);
        x.undo();
        Check.due("before fate", x.about(4), 3);
        x.undo();
        Check.due("before the act that changed nothing", x.about(4), 3);
        x.undo();
        Check.due("the facts at first", x.about(4), 5);
        Check.due("the act was not done", x.deed(0, 6), 0);
    }

    private static void undoLeavesTheTurn() {
        Check.sentence("Promise 9", "the number of the next turn stays");
        WantPlots x = Check.worldOf(BUSY);
        x.go(1);
        x.undo();
        Check.due("the next turn", x.about(3), 1);
        Check.due("turns that have passed", x.count(4), 1);
        Check.due("the next one is satisfied", x.go(1), 0);
        Check.due("the first one again", x.go(1), 1);
        Check.due("the turn of the step", x.step(0, 8), 2);
    }

    private static void undoMakesRoom() {
        Check.sentence("Promise 9", "Undoes the last step: of 30 steps");
        WantPlots x = Check.worldOf(RESTING);
        Check.actsUpTo(x, 0, 30);
        Check.due("undo", x.undo(), 29);
        Check.due("fate", x.fate(3), 30);
        Check.due("undo", x.undo(), 29);
        Check.due("act", x.act(0), 30);
        Check.due("act in a full story", x.act(0), -104);
    }

    private static void undoneActGivesPlaceToFate() {
        Check.sentence("Promise 9", "Undoes the last step: another one takes its number");
        WantPlots x = Check.worldOf("p+h,p+e;:0>a,0a-b>c,1>e");
        Check.acts(x, 2, 0, 1);
        Check.row("the act", what -> x.step(2, what), 1, 0, -1, 21, 2, 2, 1, 1);
        x.undo();
        x.fate(3);
        Check.row("fate in its place", what -> x.step(2, what), -1, -1, 3, 25, 0, 0, 2, 1);
        Check.due("fate needs nothing to be true", x.step(1, 7), 1);
        x.undo();
        x.undo();
        x.undo();
        Check.acts(x, 0);
        Check.fates(x, 1, 3);
        Check.due("fate needs nothing to be false", x.step(0, 7), 1);
        Check.due("the minimal story", x.story(3), 0);
    }

    // ---- the description: steps

    private static void thirtySteps() {
        Check.sentence("Description", "A story has at most 30 steps, numbered from 0.");
        WantPlots x = Check.worldOf(BUSY);
        Check.due("no step yet", x.step(0, 0), -101);
        for (int n = 0; n < 40; n++) {
            x.go(1);
        }
        Check.due("steps", x.about(2), 30);
        for (int step = 0; step < 30; step++) {
            Check.due("the act of step " + step, x.step(step, 0), step % 2);
        }
        Check.due("step 30", x.step(30, 0), -101);
        Check.due("step -1", x.step(-1, 0), -101);
    }

    private static void factsZeroToSeven() {
        Check.sentence("Description", "There are the facts a to h, numbered 0 to 7; each is true or false.");
        for (int fact = 0; fact < 8; fact++) {
            char letter = (char) ('a' + fact);
            WantPlots x = Check.worldOf("p+" + letter + ",p-" + letter + ";:0-" + letter + ">" + letter);
            Check.due("the fact of the goal", x.one(0, 1), fact);
            Check.due("satisfied at first", x.about(6), 2);
            Check.due("what it needs to be false", x.deed(0, 2), 1 << fact);
            Check.due("go", x.go(1), 1);
            Check.due("the facts", x.about(4), 1 << fact);
            Check.due("satisfied", x.about(6), 1);
        }
    }

    private static void canBeDone() {
        Check.sentence("Description", "It can be done if all facts of the first set are true and all of the second set"
                + " are false.");
        WantPlots x = Check.worldOf("p+a;:0>a,0abcdefgh>a,0-abcdefgh>a,0abcd-efgh>a");
        for (int facts = 0; facts < 256; facts += 5) {
            StringBuilder first = new StringBuilder();
            for (int fact = 0; fact < 8; fact++) {
                first.append((facts >> fact & 1) != 0 ? "" + (char) ('a' + fact) : "");
            }
            WantPlots y = Check.worldOf("p+a;" + first + ":0>a,0abcdefgh>a,0-abcdefgh>a,0abcd-efgh>a");
            Check.row("can be done with " + first, act -> y.deed(act, 5), 1, facts == 255 ? 1 : 0, facts == 0 ? 1 : 0,
                    facts == 15 ? 1 : 0);
        }
        Check.due("the empty sets", x.act(0), 1);
    }

    private static void trueFirstThenFalse() {
        Check.sentence("Description", "By an act, first the facts that it makes true become true and then those that it"
                + " makes false become false");
        WantPlots x = Check.worldOf("p+a;abcd:0>aceg-bdfh,0>abcdefgh,0>-abcdefgh");
        Check.acts(x, 0, 1, 2, 0);
        Check.row("the facts after step", step -> x.step(step, 3), 85, 255, 0, 85);
    }

    private static void madeAlready() {
        Check.sentence("Description", "(also if they are so already)");
        WantPlots x = Check.worldOf("p+c;a:0>a,0>-b,0a>c,0-b>d");
        Check.acts(x, 0, 1, 0, 1, 2, 3);
        Check.row("the facts after step", step -> x.step(step, 3), 1, 1, 1, 1, 5, 13);
        Check.due("linked to the latest that makes it true, though it was so", x.step(4, 4), 4);
        Check.due("linked to the latest that makes it false, though it was so", x.step(5, 4), 8);
    }

    // ---- the description: turns

    private static void turnsFromZero() {
        Check.sentence("Description", "There are turns, numbered from 0.");
        WantPlots x = Check.worldOf(BUSY);
        Check.due("the next turn", x.about(3), 0);
        x.fate(7);
        Check.due("fate before turn 0", x.step(0, 8), 0);
        for (int turn = 0; turn < 20; turn++) {
            x.go(1);
            Check.due("the turn of the step", x.step(turn + 1, 8), turn);
            Check.due("the next turn", x.about(3), turn + 1);
        }
    }

    /** A world of some characters of a kind who all want fact a, and each of whom can make it true. */
    private static WantPlots alike(char kind, int people) {
        StringBuilder text = new StringBuilder();
        for (int who = 0; who < people; who++) {
            text.append(who > 0 ? "," : "").append(kind).append("+a");
        }
        text.append(";:0>a");
        for (int who = 1; who < people; who++) {
            text.append(",").append(who).append(">a");
        }
        return Check.worldOf(text.toString());
    }

    private static void turnModulo() {
        Check.sentence("Description", "Turn t belongs to the character with the number t modulo n");
        for (int people = 1; people <= 4; people++) {
            WantPlots x = alike('p', people);
            for (int turn = 0; turn < 15; turn++) {
                Check.due("go in turn " + turn, x.go(1), 1);
                Check.due("whose turn " + turn + " is", x.step(2 * turn, 1), turn % people);
                x.fate(0);
            }
        }
    }

    private static void roundDivision() {
        Check.sentence("Description", "and to round t / n, with integer division, where n is the number of characters");
        for (int people = 1; people <= 4; people++) {
            WantPlots x = alike('i', people);
            for (int turn = 0; turn < 24; turn++) {
                int done = turn / people % 2 == 0 ? 1 : 0;
                Check.due(people + " idle ones: go in turn " + turn, x.go(1), done);
                if (done == 1) {
                    x.undo();
                }
            }
        }
    }

    private static void satisfiedOnesRest() {
        Check.sentence("Description", "In a turn, its character does nothing if the goal is satisfied");
        for (String kind : new String[] {"p", "s", "k", "i"}) {
            WantPlots x = Check.worldOf(kind + "+a,p+b;ac:0>a,0c>-c,1c>b");
            Check.due(kind + " that is satisfied would do", x.one(0, 7), -1);
            Check.due(kind + " that is satisfied: go", x.go(1), 0);
            WantPlots y = Check.worldOf(kind + "-a,p+b;c:0>-a,0c>-c,1c>b");
            Check.due(kind + " that is satisfied would do", y.one(0, 7), -1);
            Check.due(kind + " that is satisfied: go", y.go(1), 0);
        }
    }

    private static void idleOnesRestInOddRounds() {
        Check.sentence("Description", "or if the character is idle and the round is odd");
        WantPlots first = Check.worldOf("i+a,p-a;:0-a>a,1a>-a");
        first.go(12);
        Check.row("the first one rests: turn of step", step -> first.step(step, 8), 0, 1, 4, 5, 8, 9, -101);
        WantPlots last = Check.worldOf("p-a,i+a;:0a>-a,1-a>a");
        last.go(12);
        Check.row("the last one rests: turn of step", step -> last.step(step, 8), 1, 2, 5, 6, 9, 10, -101);
        for (String kind : new String[] {"p", "s", "k"}) {
            WantPlots x = Check.worldOf(kind + "+b;:0>a,0a>b");
            Check.due(kind + " does not rest", x.go(2), 2);
        }
        WantPlots late = Check.worldOf("i+a,i+a,i+a;a:0>a,1>a,2>a");
        for (int i = 0; i < 15; i++) {
            late.go(20);
        }
        late.fate(0);
        Check.due("round 100", late.go(1), 1);
        late.go(2);
        late.fate(0);
        Check.due("round 101", late.go(3), 0);
        Check.due("round 102", late.go(3), 1);
    }

    private static void slyAndAlone() {
        Check.sentence("Description", "if the character is sly and there are at least two characters");
        WantPlots alone = Check.worldOf("s+d;a:0a>-a,0a>d");
        Check.due("sly and alone, and no rival of oneself", alone.one(0, 7), 1);
        Check.due("sly and alone: go", alone.go(1), 1);
        Check.due("sly and alone: the act", alone.step(0, 0), 1);
        WantPlots two = Check.worldOf("s+d,p+b;a:0a>-a,0>d,1a>b");
        Check.due("sly, and one other", two.go(1), 1);
        Check.due("sly, and one other: the act", two.step(0, 0), 0);
        for (String kind : new String[] {"p", "k", "i"}) {
            WantPlots x = Check.worldOf(kind + "+d,p+b;a:0a>-a,0>d,1a>b");
            Check.due(kind + " is not sly", x.one(0, 7), 1);
        }
    }

    private static void rivalIsTheNext() {
        Check.sentence("Description", "let the rival be the next character");
        WantPlots next = Check.worldOf("p+h,s+d,p+b,p+h;a:1>d,1a>-a,2a>b");
        Check.due("the next one has a plan", next.one(1, 7), 1);
        WantPlots before = Check.worldOf("p+b,s+d,p+h,p+h;a:1>d,1a>-a,0a>b");
        Check.due("the one before has a plan", before.one(1, 7), 0);
        WantPlots afterNext = Check.worldOf("p+h,s+d,p+h,p+b;a:1>d,1a>-a,3a>b");
        Check.due("the one after the next has a plan", afterNext.one(1, 7), 0);
    }

    private static void rivalAfterTheLast() {
        Check.sentence("Description", "(0 after the last one)");
        String between = "";
        for (int last = 1; last <= 3; last++) {
            String acts = ";a:" + last + ">d," + last + "a>-a,0a>b";
            WantPlots x = Check.worldOf("p+b" + between + ",s+d" + acts);
            Check.due("the rival of " + last, x.one(last, 7), 1);
            WantPlots y = Check.worldOf("s+b" + between + ",p+d" + acts);
            Check.due("a plain one at the end", y.one(last, 7), 0);
            between += ",p+h";
        }
    }

    private static void rivalWithoutAct() {
        Check.sentence("Description", "if the rival has a plan of at least one act by the rival's repertoire");
        WantPlots content = Check.worldOf("s+d,p+b;ab:0>-b,0a>-a,0>d,1a>b");
        Check.due("the plan of the rival is empty, though there is a foil", content.one(0, 7), 2);
        Check.due("there is a foil", content.foil(0, 1, 0), 0);
        WantPlots helpless = Check.worldOf("s+d,p+b;:0>c,0>d,1a>b");
        Check.due("the rival has no plan", helpless.one(0, 7), 1);
        WantPlots able = Check.worldOf("s+d,p+b;a:0>c,0>d,0>-a,1a>b");
        Check.due("the plan of the rival has one act", able.one(0, 7), 2);
        WantPlots keen = Check.worldOf("s+d,k+b;a:0>d,0a>-a,0a>b");
        Check.due("the rival has no plan yet", keen.one(0, 7), 0);
        Check.acts(keen, 2, 2);
        keen.fate(1);
        Check.due("the rival has learnt the plan", keen.one(0, 7), 1);
    }

    private static void rivalWithoutFoil() {
        Check.sentence("Description", "and there is a foil against the rival, the character does its first act");
        WantPlots none = Check.worldOf("s+d,p+b;a:0a>-a,0>c,0>d,1>b");
        Check.due("no foil", none.one(0, 7), 2);
        Check.due("no foil", none.foil(0, 1, 0), -101);
        WantPlots two = Check.worldOf("s+d,p+b;a:0>d,0c>-a,0>c,1a>b");
        Check.due("the first act of two", two.one(0, 7), 2);
        Check.due("go", two.go(1), 1);
        Check.due("the step", two.step(0, 0), 2);
    }

    private static void foilWithoutOwnPlan() {
        Check.sentence("Description", "the character does its first act: also without an own plan");
        WantPlots x = Check.worldOf("s+h,p+b;a:0a>-a,1a>b");
        Check.due("no own plan", x.one(0, 5), -1);
        Check.due("the foil", x.one(0, 7), 0);
        Check.due("go", x.go(3), 1);
        Check.due("the facts", x.about(4), 0);
    }

    private static void nothingWithoutPlan() {
        Check.sentence("Description", "or nothing if there is no plan");
        for (String kind : new String[] {"p", "s", "k", "i"}) {
            WantPlots x = Check.worldOf(kind + "+h,p+b;b:0>c,0a>h,1>b");
            Check.due(kind + " without a plan would do", x.one(0, 7), -1);
            Check.due(kind + " without a plan: go", x.go(20), 0);
            Check.due("turns pass", x.about(3), 20);
        }
    }

    private static void planByOwnRepertoire() {
        Check.sentence("Description", "In all other cases the character does the first act of the plan by the own"
                + " repertoire");
        WantPlots x = Check.worldOf("k+b,p-b;:1>b");
        Check.acts(x, 0);
        x.fate(1);
        Check.due("seen once: go", x.go(1), 0);
        Check.acts(x, 0);
        x.fate(1);
        x.go(1);
        Check.due("seen twice: go", x.go(1), 1);
        Check.due("the act of another one", x.step(4, 0), 0);
        Check.due("it is a step of that one", x.step(4, 1), 1);
        WantPlots plain = Check.worldOf("p+b,p-b;:1>b");
        Check.acts(plain, 0, 0);
        plain.fate(1);
        Check.due("a plain one has learnt nothing: go", plain.go(1), 0);
    }

    private static void whatIsDoneIsAStep() {
        Check.sentence("Description", "What is done becomes a step.");
        WantPlots x = Check.worldOf("p+b,p+h;:0>a,0a>b");
        Check.due("go", x.go(5), 2);
        Check.row("the turn of the step", step -> x.step(step, 8), 0, 2, -101);
        Check.due("steps", x.count(2), 2);
        Check.due("turns", x.count(4), 5);
    }

    private static void lastOf512Calls() {
        Check.sentence("What it is", "An object is used for at most 512 calls after it has been made");
        WantPlots x = new WantPlots();
        Model m = new Model();
        String text = "i+a,p-a;:0-a>a,1a>-a";
        int calls = 0;
        for (int i = 0; i < text.length(); i++) {
            Check.due("letter", x.letter(text.charAt(i)), m.letter(text.charAt(i)));
            calls++;
        }
        Check.due("world", x.world(), m.world());
        for (calls++; calls < 511; calls++) {
            if (calls % 2 == 0) {
                Check.due("go", x.go(20), m.go(20));
            } else {
                Check.due("undo", x.undo(), m.undo());
            }
        }
        Check.due("digest, the last of " + (calls + 1) + " calls", x.digest(), m.digest());
        Check.due("calls", calls + 1, 512);
    }

    private static void turnsOf512Calls() {
        Check.sentence("What it is", "at most 512 calls after it has been made: the most turns");
        WantPlots x = Check.worldOf(RESTING);
        for (int i = 1; i <= 490; i++) {
            Check.due("go", x.go(20), 0);
        }
        Check.due("the next turn", x.about(3), 9800);
        Check.due("turns that have passed", x.count(4), 9800);
        x.fate(0);
        Check.due("the turn of the step", x.step(0, 8), 9800);
    }
}
