import java.util.ArrayList;
import java.util.List;
import java.util.function.ToIntFunction;

/**
 * The boundary cases of errors, sentence by sentence: what the description says of refused calls, of
 * several errors at once, and of numbers that are far too small or too large.
 */
public final class ErrorEdgesTest {
    private static final int UNKNOWN = -101, OUTSIDE = -102, STATE = -103, FULL = -104;
    private static final int[] EXTREME = {Integer.MIN_VALUE, Integer.MIN_VALUE + 1, -65536, -257, -256, -129, -128, -33,
        -32, -31, -3, -2, -1, 30, 31, 32, 33, 63, 64, 91, 127, 128, 255, 256, 257, 65536, 1000000,
        Integer.MAX_VALUE - 1, Integer.MAX_VALUE};

    /** A call that must be refused. */
    private record Call(String name, int error, ToIntFunction<WantPlots> made) {
    }

    public static void main(String[] args) {
        unknownThings();
        otherArguments();
        notPossibleNow();
        noRoom();
        firstErrorOfNoWorld();
        firstErrorOfAFullStory();
        firstErrorOfThings();
        noneOnlyWithoutError();
        nothingChangesWithoutWorld();
        nothingChangesInAStory();
        nothingChangesWhenFull();
        nothingChangesLater();
        extremeNumbers();
        Check.end("ErrorEdgesTest");
    }

    /** An object with a story, some turns, something undone, and the beginning of a text on the page. */
    private static WantPlots inAStory() {
        WantPlots x = Check.worldOf("s+d,k+b,i-a;a:0>d,0>c,0c>-a,1a>b,2e>-a");
        x.go(4);
        x.fate(1);
        x.fate(4);
        x.undo();
        Check.write(x, "p+a;:0>");
        return x;
    }

    /** An object whose story and page are full. */
    private static WantPlots full() {
        WantPlots x = Check.worldOf("p+a,p-a;:0-a>a,1a>-a");
        x.go(20);
        x.go(20);
        Check.write(x, "p+a,p-b,".repeat(11) + "p+");
        return x;
    }

    private static void ask(WantPlots x, List<Call> calls) {
        for (Call call : calls) {
            Check.refused(x, call.name(), () -> call.made().applyAsInt(x), call.error());
        }
    }

    // ---- what the errors stand for

    private static void unknownThings() {
        Check.sentence("Description", "UNKNOWN: there is no such character, fact, act, step or place.");
        WantPlots x = inAStory();
        ask(x, List.of(new Call("no character", UNKNOWN, y -> y.one(3, 0)), new Call("no fact", UNKNOWN, y -> y.fate(8)),
                new Call("no act", UNKNOWN, y -> y.act(5)), new Call("no deed", UNKNOWN, y -> y.deed(5, 0)),
                new Call("no step", UNKNOWN, y -> y.step(4, 0)), new Call("no place", UNKNOWN, y -> y.plan(0, 9)),
                new Call("no place of a foil", UNKNOWN, y -> y.foil(0, 1, 9)),
                new Call("no place of a way", UNKNOWN, y -> y.together(99))));
    }

    private static void otherArguments() {
        Check.sentence("Description", "OUTSIDE: another argument is out of range.");
        ask(inAStory(), List.of(new Call("letter 31", OUTSIDE, y -> y.letter(31)),
                new Call("letter 127", OUTSIDE, y -> y.letter(127)), new Call("go 0", OUTSIDE, y -> y.go(0)),
                new Call("go 21", OUTSIDE, y -> y.go(21)), new Call("about -1", OUTSIDE, y -> y.about(-1)),
                new Call("about 7", OUTSIDE, y -> y.about(7)), new Call("one -1", OUTSIDE, y -> y.one(0, -1)),
                new Call("one 8", OUTSIDE, y -> y.one(0, 8)), new Call("deed -1", OUTSIDE, y -> y.deed(0, -1)),
                new Call("deed 7", OUTSIDE, y -> y.deed(0, 7)), new Call("step -1", OUTSIDE, y -> y.step(0, -1)),
                new Call("step 9", OUTSIDE, y -> y.step(0, 9)), new Call("story -1", OUTSIDE, y -> y.story(-1)),
                new Call("story 7", OUTSIDE, y -> y.story(7)), new Call("ways -1", OUTSIDE, y -> y.ways(-1)),
                new Call("ways 13", OUTSIDE, y -> y.ways(13)), new Call("count -1", OUTSIDE, y -> y.count(-1)),
                new Call("count 6", OUTSIDE, y -> y.count(6))));
    }

    private static void notPossibleNow() {
        Check.sentence("Description", "STATE: the call is not possible now, as the method says.");
        WantPlots x = new WantPlots();
        ask(x, List.of(new Call("world", STATE, WantPlots::world), new Call("go", STATE, y -> y.go(1)),
                new Call("fate", STATE, y -> y.fate(0)), new Call("act", STATE, y -> y.act(0)),
                new Call("undo", STATE, WantPlots::undo), new Call("about", STATE, y -> y.about(6)),
                new Call("story", STATE, y -> y.story(6)), new Call("together", STATE, y -> y.together(-1)),
                new Call("ways", STATE, y -> y.ways(0))));
        Check.write(x, "p+a;:0>b");
        Check.due("world", x.world(), 1);
        Check.due("go is possible then", x.go(1), 0);
        Check.due("fate is possible then", x.fate(0), 1);
        Check.due("act is possible then", x.act(0), 2);
        Check.due("undo is possible then", x.undo(), 1);
        Check.due("about is possible then", x.about(6), 1);
        Check.due("story is possible then", x.story(6), 0);
        Check.due("together is possible then", x.together(-1), 0);
        Check.due("ways is possible then", x.ways(0), 1);
    }

    private static void noRoom() {
        Check.sentence("Description", "FULL: there is no room.");
        WantPlots x = full();
        ask(x, List.of(new Call("letter", FULL, y -> y.letter(97)), new Call("fate", FULL, y -> y.fate(0)),
                new Call("act", FULL, y -> y.act(0))));
        x.undo();
        x.blank();
        Check.due("room for a letter", x.letter(97), 1);
        Check.due("room for fate", x.fate(0), 30);
        x.undo();
        Check.due("room for an act", x.act(1), 30);
    }

    // ---- several errors at once

    private static void firstErrorOfNoWorld() {
        Check.sentence("Description", "If several errors apply, the one that the method names first is returned: without a"
                + " world");
        ask(new WantPlots(), List.of(new Call("go 0", OUTSIDE, y -> y.go(0)), new Call("go 21", OUTSIDE, y -> y.go(21)),
                new Call("fate 8", STATE, y -> y.fate(8)), new Call("act -1", STATE, y -> y.act(-1)),
                new Call("about 7", OUTSIDE, y -> y.about(7)), new Call("story 7", OUTSIDE, y -> y.story(7)),
                new Call("together -2", STATE, y -> y.together(-2)), new Call("ways 13", STATE, y -> y.ways(13)),
                new Call("ways -1", STATE, y -> y.ways(-1))));
    }

    private static void firstErrorOfAFullStory() {
        Check.sentence("Description", "If several errors apply, the one that the method names first is returned: without"
                + " room");
        ask(full(), List.of(new Call("letter 31", OUTSIDE, y -> y.letter(31)),
                new Call("letter 127", OUTSIDE, y -> y.letter(127)), new Call("fate 8", UNKNOWN, y -> y.fate(8)),
                new Call("fate -1", UNKNOWN, y -> y.fate(-1)), new Call("act 2", UNKNOWN, y -> y.act(2)),
                new Call("act -1", UNKNOWN, y -> y.act(-1)),
                new Call("an act that cannot be done", OUTSIDE, y -> y.act(1))));
    }

    private static void firstErrorOfThings() {
        Check.sentence("Description", "If several errors apply, the one that the method names first is returned: of a thing"
                + " and a property that are none");
        ask(inAStory(), List.of(new Call("one 3, 8", UNKNOWN, y -> y.one(3, 8)),
                new Call("one -1, -1", UNKNOWN, y -> y.one(-1, -1)), new Call("deed 5, 7", UNKNOWN, y -> y.deed(5, 7)),
                new Call("deed -1, -1", UNKNOWN, y -> y.deed(-1, -1)), new Call("step 4, 9", UNKNOWN, y -> y.step(4, 9)),
                new Call("step -1, -1", UNKNOWN, y -> y.step(-1, -1))));
    }

    private static void noneOnlyWithoutError() {
        Check.sentence("Description", "NONE is returned only if no error applies");
        WantPlots none = Check.worldOf("p+a,p-a;:0>b");
        Check.due("no way", none.together(-1), -1);
        Check.due("no place of no way", none.together(0), UNKNOWN);
        Check.due("no place of no way", none.together(-2), UNKNOWN);
        Check.due("no way without a world", new WantPlots().together(-1), STATE);
        Check.due("no plan", none.one(0, 5), -1);
        Check.due("no plan of nobody", none.one(2, 5), UNKNOWN);
        Check.due("no first act", none.one(0, 6), -1);
        Check.due("nothing would be done", none.one(0, 7), -1);
        Check.due("no act of no plan", none.plan(0, 0), UNKNOWN);
        Check.due("no act of no plan", none.plan(0, -1), UNKNOWN);
        none.fate(3);
        Check.due("no act of fate", none.step(0, 0), -1);
        Check.due("no act of no step", none.step(1, 0), UNKNOWN);
    }

    // ---- nothing changes

    /** Calls that are refused whatever the object is like. */
    private static List<Call> alwaysRefused(int unknown) {
        List<Call> calls = new ArrayList<>();
        calls.add(new Call("letter 31", OUTSIDE, y -> y.letter(31)));
        calls.add(new Call("letter 127", OUTSIDE, y -> y.letter(127)));
        calls.add(new Call("world", STATE, WantPlots::world));
        calls.add(new Call("go 0", OUTSIDE, y -> y.go(0)));
        calls.add(new Call("go 21", OUTSIDE, y -> y.go(21)));
        calls.add(new Call("fate 8", unknown, y -> y.fate(8)));
        calls.add(new Call("act 10", unknown, y -> y.act(10)));
        calls.add(new Call("about 7", OUTSIDE, y -> y.about(7)));
        calls.add(new Call("one 4", UNKNOWN, y -> y.one(4, 0)));
        calls.add(new Call("plan 4", UNKNOWN, y -> y.plan(4, 0)));
        calls.add(new Call("plan at -1", UNKNOWN, y -> y.plan(0, -1)));
        calls.add(new Call("foil of oneself", UNKNOWN, y -> y.foil(0, 0, 0)));
        calls.add(new Call("foil at -1", UNKNOWN, y -> y.foil(0, 1, -1)));
        calls.add(new Call("deed 10", UNKNOWN, y -> y.deed(10, 0)));
        calls.add(new Call("step 30", UNKNOWN, y -> y.step(30, 0)));
        calls.add(new Call("story 7", OUTSIDE, y -> y.story(7)));
        calls.add(new Call("together -2", unknown, y -> y.together(-2)));
        calls.add(new Call("ways 13", unknown == STATE ? STATE : OUTSIDE, y -> y.ways(13)));
        calls.add(new Call("count 6", OUTSIDE, y -> y.count(6)));
        return calls;
    }

    private static void nothingChangesWithoutWorld() {
        Check.sentence("Description", "A call that returns an error changes nothing: without a world");
        WantPlots x = Check.pageOf("p+a;:0>");
        ask(x, alwaysRefused(STATE));
        Check.refused(x, "undo", x::undo, STATE);
        Check.due("the page", x.count(1), 7);
        Check.due("letter", x.letter('b'), 8);
        Check.due("world", x.world(), 1);
    }

    private static void nothingChangesInAStory() {
        Check.sentence("Description", "A call that returns an error changes nothing: in a story");
        WantPlots x = inAStory();
        ask(x, alwaysRefused(UNKNOWN));
        Check.refused(x, "an act that cannot be done", () -> x.act(4), OUTSIDE);
        Check.due("the page", x.count(1), 7);
    }

    private static void nothingChangesWhenFull() {
        Check.sentence("Description", "A call that returns an error changes nothing: in a full story");
        WantPlots x = full();
        ask(x, alwaysRefused(UNKNOWN));
        Check.refused(x, "letter", () -> x.letter(97), FULL);
        Check.refused(x, "fate", () -> x.fate(0), FULL);
        Check.refused(x, "act", () -> x.act(0), FULL);
        Check.refused(x, "an act that cannot be done", () -> x.act(1), OUTSIDE);
    }

    /** What a digest does not tell shows itself later: the story goes on as that of a twin. */
    private static void nothingChangesLater() {
        Check.sentence("Description", "A call that returns an error changes nothing: not what comes later");
        WantPlots x = inAStory();
        WantPlots twin = inAStory();
        for (int i = 0; i < 6; i++) {
            for (Call call : alwaysRefused(UNKNOWN)) {
                Check.due(call.name(), call.made().applyAsInt(x), call.error());
            }
            Check.due("go", x.go(2), twin.go(2));
            Check.due("fate", x.fate(i), twin.fate(i));
            Check.due("foil", x.foil(0, 1, 0), twin.foil(0, 1, 0));
            Check.due("undo", x.undo(), twin.undo());
            Check.due("fault", x.fault(), twin.fault());
            Check.due("digest", x.digest(), twin.digest());
        }
        Check.due("letter", x.letter('c'), twin.letter('c'));
        Check.due("world", x.world(), twin.world());
        Check.due("digest", x.digest(), twin.digest());
    }

    // ---- numbers of any size

    private static void extremeNumbers() {
        Check.sentence("Description", "there is no such character, fact, act, step or place; out of range: numbers of any"
                + " size");
        for (int odd : EXTREME) {
            WantPlots x = inAStory();
            ask(x, List.of(new Call("go " + odd, OUTSIDE, y -> y.go(odd)), new Call("fate " + odd, UNKNOWN, y -> y.fate(odd)),
                    new Call("act " + odd, UNKNOWN, y -> y.act(odd)), new Call("about " + odd, OUTSIDE, y -> y.about(odd)),
                    new Call("one " + odd, UNKNOWN, y -> y.one(odd, 0)),
                    new Call("one 0, " + odd, OUTSIDE, y -> y.one(0, odd)),
                    new Call("plan " + odd, UNKNOWN, y -> y.plan(odd, 0)),
                    new Call("plan 1, " + odd, UNKNOWN, y -> y.plan(1, odd)),
                    new Call("foil " + odd, UNKNOWN, y -> y.foil(odd, 1, 0)),
                    new Call("foil 0, " + odd, UNKNOWN, y -> y.foil(0, odd, 0))));
            ask(x, List.of(new Call("foil 0, 1, " + odd, UNKNOWN, y -> y.foil(0, 1, odd)),
                    new Call("deed " + odd, UNKNOWN, y -> y.deed(odd, 0)),
                    new Call("deed 0, " + odd, OUTSIDE, y -> y.deed(0, odd)),
                    new Call("step " + odd, UNKNOWN, y -> y.step(odd, 0)),
                    new Call("step 0, " + odd, OUTSIDE, y -> y.step(0, odd)),
                    new Call("story " + odd, OUTSIDE, y -> y.story(odd)),
                    new Call("ways " + odd, OUTSIDE, y -> y.ways(odd)),
                    new Call("count " + odd, OUTSIDE, y -> y.count(odd))));
            if (odd != -1) {
                Check.refused(x, "together " + odd, () -> x.together(odd), UNKNOWN);
            }
            if (odd < 32 || odd > 126) {
                Check.refused(x, "letter " + odd, () -> x.letter(odd), OUTSIDE);
            }
        }
    }
}
