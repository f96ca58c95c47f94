import java.util.Random;

/** Long random runs of calls, each answered by the class and by the model, with fixed seeds. */
public final class ModelTest {
    private static final int RUNS = 600;
    private static final int CALLS = 420;
    private static final int[] ODD = {-1, -2, 3, 4, 7, 8, 9, 10, 12, 13, 20, 21, 29, 30, 31, 32, 33, 255, 256,
        -101, 1000000, Integer.MAX_VALUE, Integer.MIN_VALUE};

    private final Random random;
    private final WantPlots x = new WantPlots();
    private final Model m = new Model();
    private final String run;
    private int calls = 0;

    private ModelTest(int seed) {
        random = new Random(seed);
        run = "run " + seed + ", ";
    }

    public static void main(String[] args) {
        for (int seed = 0; seed < RUNS; seed++) {
            new ModelTest(seed).play();
        }
        Check.end("ModelTest");
    }

    private void play() {
        if (random.nextInt(4) > 0) {
            write(randomWorld());
            same("world()", x.world(), m.world());
        }
        while (calls < CALLS) {
            switch (random.nextInt(12)) {
                case 0:
                    textCalls();
                    break;
                case 1:
                case 2:
                case 3:
                case 4:
                    storyCall();
                    break;
                case 5:
                    same("digest()", x.digest(), m.digest());
                    break;
                default:
                    tellCall();
            }
        }
        same("digest()", x.digest(), m.digest());
    }

    private void same(String call, long got, long want) {
        calls++;
        Check.due(run + "call " + calls + ": " + call, got, want);
    }

    /** Mostly a number below the bound, sometimes one at or beyond an edge. */
    private int number(int bound) {
        return random.nextInt(9) > 0 ? random.nextInt(bound) : ODD[random.nextInt(ODD.length)];
    }

    private void write(String text) {
        for (int i = 0; i < text.length(); i++) {
            same("letter(" + text.charAt(i) + ")", x.letter(text.charAt(i)), m.letter(text.charAt(i)));
        }
    }

    private void textCalls() {
        switch (random.nextInt(5)) {
            case 0:
                same("blank()", x.blank(), m.blank());
                write(spoilt(randomWorld()));
                break;
            case 1:
                int code = number(140);
                same("letter(" + code + ")", x.letter(code), m.letter(code));
                break;
            case 2:
                same("blank()", x.blank(), m.blank());
                write(randomWorld());
                break;
            default:
                break;
        }
        same("fault()", x.fault(), m.fault());
        if (random.nextInt(3) > 0) {
            same("world()", x.world(), m.world());
        }
    }

    private void storyCall() {
        int n = number(11);
        switch (random.nextInt(6)) {
            case 0:
                same("go(" + n + ")", x.go(n), m.go(n));
                break;
            case 1:
                same("fate(" + n + ")", x.fate(n), m.fate(n));
                break;
            case 2:
                same("undo()", x.undo(), m.undo());
                break;
            default:
                same("act(" + n + ")", x.act(n), m.act(n));
        }
    }

    private void tellCall() {
        int a = number(4);
        int b = number(9);
        int c = number(30);
        switch (random.nextInt(11)) {
            case 0:
                same("about(" + b + ")", x.about(b), m.about(b));
                break;
            case 1:
                same("one(" + a + "," + b + ")", x.one(a, b), m.one(a, b));
                break;
            case 2:
                int place = number(4);
                same("plan(" + a + "," + place + ")", x.plan(a, place), m.plan(a, place));
                break;
            case 3:
                int other = number(4);
                int at = number(3);
                same("foil(" + a + "," + other + "," + at + ")", x.foil(a, other, at), m.foil(a, other, at));
                break;
            case 4:
                int what = number(7);
                same("deed(" + b + "," + what + ")", x.deed(b, what), m.deed(b, what));
                break;
            case 5:
            case 6:
                same("step(" + c + "," + b + ")", x.step(c, b), m.step(c, b));
                break;
            case 7:
                same("story(" + b + ")", x.story(b), m.story(b));
                break;
            case 8:
                int index = number(5) - 1;
                same("together(" + index + ")", x.together(index), m.together(index));
                break;
            case 9:
                int length = number(14);
                same("ways(" + length + ")", x.ways(length), m.ways(length));
                break;
            default:
                same("count(" + b + ")", x.count(b), m.count(b));
        }
    }

    // ---- texts

    private String facts(int share, String without) {
        StringBuilder text = new StringBuilder();
        for (char c = 'a'; c <= 'h'; c++) {
            if (random.nextInt(100) < share && without.indexOf(c) < 0) {
                text.append(c);
            }
        }
        return text.toString();
    }

    private String pair(int share) {
        String yes = facts(share, "");
        String no = facts(share, yes);
        return no.isEmpty() ? yes : yes + "-" + no;
    }

    private String randomAct(int people) {
        String makes = "";
        while (makes.isEmpty()) {
            makes = pair(12);
        }
        return random.nextInt(people) + pair(random.nextInt(3) * 6) + ">" + makes;
    }

    private String randomWorld() {
        int people = 1 + random.nextInt(4);
        StringBuilder text = new StringBuilder();
        for (int i = 0; i < people; i++) {
            text.append(i > 0 ? "," : "").append("pskis".charAt(random.nextInt(5)));
            text.append(random.nextInt(3) > 0 ? '+' : '-').append((char) ('a' + random.nextInt(8)));
        }
        text.append(";").append(facts(random.nextInt(60), "")).append(":").append(randomAct(people));
        int acts = random.nextInt(10);
        for (int i = 0; i < acts; i++) {
            String more = randomAct(people);
            if (text.length() + more.length() < 90) {
                text.append(",").append(more);
            }
        }
        return text.toString();
    }

    /** The text with a letter changed, left out or put in, or with its end cut off. */
    private String spoilt(String text) {
        String letters = "abcdefgh-+>,;:0123pski A~";
        StringBuilder changed = new StringBuilder(text);
        int at = random.nextInt(text.length());
        char c = letters.charAt(random.nextInt(letters.length()));
        switch (random.nextInt(4)) {
            case 0:
                changed.setCharAt(at, c);
                break;
            case 1:
                changed.deleteCharAt(at);
                break;
            case 2:
                changed.insert(at, c);
                break;
            default:
                changed.setLength(at);
        }
        return changed.toString();
    }
}
