import java.math.BigInteger;
import java.util.ArrayList;
import java.util.Arrays;
import java.util.HashMap;
import java.util.List;
import java.util.Map;
import java.util.TreeSet;
import java.util.regex.Pattern;

/**
 * The document once more, slowly and by other means than the class: texts by a pattern for whole
 * texts and a try of endings, plans by distances to the goal, everything else from its definition.
 */
final class Model {
    static final int NONE = -1, UNKNOWN = -101, OUTSIDE = -102, STATE = -103, FULL = -104;

    /** A fact set is a string of its letters here, in ascending order. */
    record Act(int owner, String needsTrue, String needsFalse, String makesTrue, String makesFalse) {
    }

    record Person(char kind, char sign, char fact) {
    }

    /** A step is an act, or fate, for which act is NONE. */
    record Step(int act, int fact, boolean became, int after, int turn) {
    }

    record World(List<Person> people, TreeSet<Character> first, List<Act> acts) {
    }

    private static final String SET = "a?b?c?d?e?f?g?h?";
    private static final String ACT = "[0-3]" + SET + "(-" + SET + ")?>" + SET + "(-" + SET + ")?";
    private static final String PERSON = "[pski][+-][a-h]";
    private static final Pattern TEXT = Pattern.compile(
            PERSON + "(," + PERSON + "){0,3};" + SET + ":" + ACT + "(," + ACT + "){0,9}");

    private String page = "";
    private World world = null;
    private final List<Step> steps = new ArrayList<>();
    private int turn = 0, worldsRead = 0, turnsPassed = 0, undone = 0;

    // ---- texts

    /** The world of a whole text, or null. */
    static World parse(String text) {
        if (!TEXT.matcher(text).matches()) {
            return null;
        }
        String[] halves = text.split(":", -1);
        String[] head = halves[0].split(";", -1);
        List<Person> people = new ArrayList<>();
        for (String p : head[0].split(",")) {
            people.add(new Person(p.charAt(0), p.charAt(1), p.charAt(2)));
        }
        List<Act> acts = new ArrayList<>();
        for (String a : halves[1].split(",")) {
            String[] sides = a.substring(1).split(">", -1);
            String[] needs = sides[0].split("-", -1);
            String[] makes = sides[1].split("-", -1);
            int owner = a.charAt(0) - '0';
            if (owner >= people.size() || !isPair(needs) || !isPair(makes) || sides[1].isEmpty()) {
                return null;
            }
            acts.add(new Act(owner, needs[0], needs.length > 1 ? needs[1] : "", makes[0], makes.length > 1 ? makes[1] : ""));
        }
        TreeSet<Character> first = new TreeSet<>();
        for (char c : head[1].toCharArray()) {
            first.add(c);
        }
        return new World(people, first, acts);
    }

    private static boolean isPair(String[] sets) {
        if (sets.length == 1) {
            return true;
        }
        return !sets[1].isEmpty() && sets[0].chars().noneMatch(c -> sets[1].indexOf(c) >= 0);
    }

    /** Whether some text of a world begins so: one of the shortest endings fits. */
    static boolean isBeginning(String text) {
        for (String end : new String[] {"", "p+a;:0>a", "+a;:0>a", "a;:0>a", ";:0>a", ":0>a", "0>a", ">a"}) {
            if (parse(text + end) != null) {
                return true;
            }
        }
        for (char c = 'a'; c <= 'h'; c++) {
            if (parse(text + c) != null || parse(text + c + ">a") != null) {
                return true;
            }
        }
        return false;
    }

    int letter(int code) {
        if (code < 32 || code > 126) {
            return OUTSIDE;
        }
        if (page.length() == 90) {
            return FULL;
        }
        page += (char) code;
        return page.length();
    }

    int blank() {
        int length = page.length();
        page = "";
        return length;
    }

    int fault() {
        for (int i = 0; i < page.length(); i++) {
            if (!isBeginning(page.substring(0, i + 1))) {
                return i;
            }
        }
        return page.length();
    }

    int world() {
        World read = parse(page);
        if (read == null) {
            return STATE;
        }
        world = read;
        page = "";
        steps.clear();
        turn = 0;
        worldsRead++;
        return world.acts().size();
    }

    // ---- facts, goals, plans

    private static int bits(String facts) {
        int set = 0;
        for (char c : facts.toCharArray()) {
            set |= 1 << (c - 'a');
        }
        return set;
    }

    private static boolean isTrue(int state, char fact) {
        return (state & 1 << (fact - 'a')) != 0;
    }

    private static boolean can(Act act, int state) {
        for (char c : act.needsTrue().toCharArray()) {
            if (!isTrue(state, c)) {
                return false;
            }
        }
        for (char c : act.needsFalse().toCharArray()) {
            if (isTrue(state, c)) {
                return false;
            }
        }
        return true;
    }

    private static int after(Act act, int state) {
        return (state | bits(act.makesTrue())) & ~bits(act.makesFalse());
    }

    private int first() {
        int set = 0;
        for (char c : world.first()) {
            set |= 1 << (c - 'a');
        }
        return set;
    }

    private int now() {
        return steps.isEmpty() ? first() : steps.get(steps.size() - 1).after();
    }

    private boolean satisfied(int who, int state) {
        Person p = world.people().get(who);
        return isTrue(state, p.fact()) == (p.sign() == '+');
    }

    private int timesDone(int act) {
        int times = 0;
        for (Step s : steps) {
            times += s.act() == act ? 1 : 0;
        }
        return times;
    }

    private TreeSet<Integer> repertoire(int who) {
        TreeSet<Integer> acts = new TreeSet<>();
        for (int a = 0; a < world.acts().size(); a++) {
            if (world.acts().get(a).owner() == who) {
                acts.add(a);
            } else if (world.people().get(who).kind() == 'k' && timesDone(a) > 1) {
                acts.add(a);
            }
        }
        return acts;
    }

    /** The distance of each state to the wanted ones, or 1000 where none can be reached. */
    private int[] distances(TreeSet<Integer> acts, boolean[] wanted) {
        int[] distance = new int[256];
        for (int s = 0; s < 256; s++) {
            distance[s] = wanted[s] ? 0 : 1000;
        }
        for (boolean again = true; again;) {
            again = false;
            for (int s = 0; s < 256; s++) {
                for (int a : acts) {
                    Act act = world.acts().get(a);
                    if (can(act, s) && distance[after(act, s)] + 1 < distance[s]) {
                        distance[s] = distance[after(act, s)] + 1;
                        again = true;
                    }
                }
            }
        }
        return distance;
    }

    /** The shortest, lexicographically first sequence to a wanted state, or null. */
    private List<Integer> shortest(TreeSet<Integer> acts, boolean[] wanted) {
        int[] distance = distances(acts, wanted);
        int state = now();
        if (distance[state] == 1000) {
            return null;
        }
        List<Integer> found = new ArrayList<>();
        while (distance[state] > 0) {
            for (int a : acts) {
                Act act = world.acts().get(a);
                if (can(act, state) && distance[after(act, state)] == distance[state] - 1) {
                    found.add(a);
                    state = after(act, state);
                    break;
                }
            }
        }
        return found;
    }

    private boolean[] goalStates(int who) {
        boolean[] wanted = new boolean[256];
        for (int s = 0; s < 256; s++) {
            wanted[s] = satisfied(who, s);
        }
        return wanted;
    }

    private boolean[] allGoalStates() {
        boolean[] wanted = new boolean[256];
        Arrays.fill(wanted, true);
        for (int who = 0; who < world.people().size(); who++) {
            for (int s = 0; s < 256; s++) {
                wanted[s] &= satisfied(who, s);
            }
        }
        return wanted;
    }

    private List<Integer> planOf(int who) {
        return shortest(repertoire(who), goalStates(who));
    }

    private List<Integer> foilOf(int who, int against) {
        int[] distance = distances(repertoire(against), goalStates(against));
        boolean[] hopeless = new boolean[256];
        for (int s = 0; s < 256; s++) {
            hopeless[s] = distance[s] == 1000;
        }
        return shortest(repertoire(who), hopeless);
    }

    private List<Integer> wayOfAll() {
        TreeSet<Integer> all = new TreeSet<>();
        for (int a = 0; a < world.acts().size(); a++) {
            all.add(a);
        }
        return shortest(all, allGoalStates());
    }

    private int doneInTurn(int who, int round) {
        char kind = world.people().get(who).kind();
        if (satisfied(who, now()) || kind == 'i' && round % 2 != 0) {
            return NONE;
        }
        if (kind == 's' && world.people().size() > 1) {
            int rival = (who + 1) % world.people().size();
            List<Integer> theirs = planOf(rival);
            List<Integer> foil = foilOf(who, rival);
            if (theirs != null && !theirs.isEmpty() && foil != null) {
                return foil.get(0);
            }
        }
        List<Integer> own = planOf(who);
        return own == null ? NONE : own.get(0);
    }

    // ---- the story

    private void add(int act) {
        steps.add(new Step(act, NONE, false, after(world.acts().get(act), now()), turn));
    }

    int go(int n) {
        if (n < 1 || n > 20) {
            return OUTSIDE;
        }
        if (world == null) {
            return STATE;
        }
        int before = steps.size();
        for (int i = 0; i < n && steps.size() < 30; i++) {
            int act = doneInTurn(turn % world.people().size(), turn / world.people().size());
            if (act != NONE) {
                add(act);
            }
            turn++;
            turnsPassed++;
        }
        return steps.size() - before;
    }

    int fate(int fact) {
        if (world == null) {
            return STATE;
        }
        if (fact < 0 || fact > 7) {
            return UNKNOWN;
        }
        if (steps.size() == 30) {
            return FULL;
        }
        int state = now() ^ 1 << fact;
        steps.add(new Step(NONE, fact, (state & 1 << fact) != 0, state, turn));
        return steps.size();
    }

    int act(int act) {
        if (world == null) {
            return STATE;
        }
        if (act < 0 || act >= world.acts().size()) {
            return UNKNOWN;
        }
        if (!can(world.acts().get(act), now())) {
            return OUTSIDE;
        }
        if (steps.size() == 30) {
            return FULL;
        }
        add(act);
        return steps.size();
    }

    int undo() {
        if (steps.isEmpty()) {
            return STATE;
        }
        steps.remove(steps.size() - 1);
        undone++;
        return steps.size();
    }

    // ---- what is told

    private int satisfiedSet() {
        int set = 0;
        for (int who = 0; who < world.people().size(); who++) {
            set |= satisfied(who, now()) ? 1 << who : 0;
        }
        return set;
    }

    int about(int what) {
        if (what < 0 || what > 6) {
            return OUTSIDE;
        }
        if (world == null) {
            return STATE;
        }
        return new int[] {world.people().size(), world.acts().size(), steps.size(), turn, now(), first(),
            satisfiedSet()}[what];
    }

    private boolean isPerson(int who) {
        return world != null && who >= 0 && who < world.people().size();
    }

    int one(int who, int what) {
        if (!isPerson(who)) {
            return UNKNOWN;
        }
        if (what < 0 || what > 7) {
            return OUTSIDE;
        }
        Person p = world.people().get(who);
        List<Integer> plan = planOf(who);
        int repertoire = 0;
        for (int a : repertoire(who)) {
            repertoire += 1 << a;
        }
        int own = 0;
        for (Step s : steps) {
            own += s.act() != NONE && world.acts().get(s.act()).owner() == who ? 1 : 0;
        }
        return new int[] {"pski".indexOf(p.kind()), p.fact() - 'a', p.sign() == '+' ? 1 : 0, repertoire, own,
            plan == null ? NONE : plan.size(), plan == null || plan.isEmpty() ? NONE : plan.get(0),
            doneInTurn(who, 0)}[what];
    }

    private static int at(List<Integer> acts, int place) {
        return acts == null || place < 0 || place >= acts.size() ? UNKNOWN : acts.get(place);
    }

    int plan(int who, int place) {
        return isPerson(who) ? at(planOf(who), place) : UNKNOWN;
    }

    int foil(int who, int against, int place) {
        return isPerson(who) && isPerson(against) && who != against ? at(foilOf(who, against), place) : UNKNOWN;
    }

    int deed(int act, int what) {
        if (world == null || act < 0 || act >= world.acts().size()) {
            return UNKNOWN;
        }
        if (what < 0 || what > 6) {
            return OUTSIDE;
        }
        Act a = world.acts().get(act);
        return new int[] {a.owner(), bits(a.needsTrue()), bits(a.needsFalse()), bits(a.makesTrue()),
            bits(a.makesFalse()), can(a, now()) ? 1 : 0, timesDone(act)}[what];
    }

    private boolean makes(Step s, char fact, boolean value) {
        if (s.act() == NONE) {
            return s.fact() == fact - 'a' && s.became() == value;
        }
        Act a = world.acts().get(s.act());
        return (value ? a.makesTrue() : a.makesFalse()).indexOf(fact) >= 0;
    }

    private TreeSet<Integer> links(int step) {
        TreeSet<Integer> found = new TreeSet<>();
        if (steps.get(step).act() == NONE) {
            return found;
        }
        Act a = world.acts().get(steps.get(step).act());
        for (char c = 'a'; c <= 'h'; c++) {
            for (boolean value : new boolean[] {true, false}) {
                if ((value ? a.needsTrue() : a.needsFalse()).indexOf(c) >= 0) {
                    int latest = NONE;
                    for (int e = 0; e < step; e++) {
                        latest = makes(steps.get(e), c, value) ? e : latest;
                    }
                    if (latest != NONE) {
                        found.add(latest);
                    }
                }
            }
        }
        return found;
    }

    private void dependencies(int step, TreeSet<Integer> found) {
        for (int e : links(step)) {
            if (found.add(e)) {
                dependencies(e, found);
            }
        }
    }

    /** The first step of the thread of each step, by passing labels along links until all is quiet. */
    private int[] threadFirsts() {
        int[] label = new int[steps.size()];
        for (int i = 0; i < label.length; i++) {
            label[i] = i;
        }
        for (boolean again = true; again;) {
            again = false;
            for (int i = 0; i < label.length; i++) {
                for (int e : links(i)) {
                    int low = Math.min(label[i], label[e]);
                    again |= label[i] != low || label[e] != low;
                    label[i] = low;
                    label[e] = low;
                }
            }
        }
        return label;
    }

    private int thread(int step) {
        int[] firsts = threadFirsts();
        TreeSet<Integer> all = new TreeSet<>();
        for (int f : firsts) {
            all.add(f);
        }
        return all.headSet(firsts[step]).size();
    }

    private boolean valid(List<Integer> chosen) {
        int state = first();
        for (int i : chosen) {
            Step s = steps.get(i);
            if (s.act() == NONE) {
                state = s.became() ? state | 1 << s.fact() : state & ~(1 << s.fact());
            } else {
                Act a = world.acts().get(s.act());
                if (!can(a, state)) {
                    return false;
                }
                state = after(a, state);
            }
        }
        for (int who = 0; who < world.people().size(); who++) {
            if (satisfied(who, now()) && !satisfied(who, state)) {
                return false;
            }
        }
        return true;
    }

    private List<Integer> allSteps() {
        List<Integer> all = new ArrayList<>();
        for (int i = 0; i < steps.size(); i++) {
            all.add(i);
        }
        return all;
    }

    private boolean dull(int step, List<Integer> among) {
        List<Integer> rest = new ArrayList<>(among);
        rest.remove(Integer.valueOf(step));
        return valid(rest);
    }

    private List<Integer> minimal() {
        List<Integer> rest = allSteps();
        for (int i = 0; i < rest.size();) {
            if (dull(rest.get(i), rest)) {
                rest.remove(i);
                i = 0;
            } else {
                i++;
            }
        }
        return rest;
    }

    private static int setOf(Iterable<Integer> numbers) {
        int set = 0;
        for (int n : numbers) {
            set |= 1 << n;
        }
        return set;
    }

    int step(int step, int what) {
        if (step < 0 || step >= steps.size()) {
            return UNKNOWN;
        }
        Step s = steps.get(step);
        switch (what) {
            case 0:
                return s.act();
            case 1:
                return s.act() == NONE ? NONE : world.acts().get(s.act()).owner();
            case 2:
                return s.fact();
            case 3:
                return s.after();
            case 4:
                return setOf(links(step));
            case 5:
                TreeSet<Integer> found = new TreeSet<>();
                dependencies(step, found);
                return setOf(found);
            case 6:
                return thread(step);
            case 7:
                return dull(step, allSteps()) ? 1 : 0;
            case 8:
                return s.turn();
            default:
                return OUTSIDE;
        }
    }

    int story(int what) {
        if (what < 0 || what > 6) {
            return OUTSIDE;
        }
        if (world == null) {
            return STATE;
        }
        int links = 0;
        int widest = 0;
        int dull = 0;
        for (int i = 0; i < steps.size(); i++) {
            links += links(i).size();
            for (int e : links(i)) {
                widest = Math.max(widest, i - e);
            }
            dull += dull(i, allSteps()) ? 1 : 0;
        }
        TreeSet<Integer> firsts = new TreeSet<>();
        for (int f : threadFirsts()) {
            firsts.add(f);
        }
        return new int[] {firsts.size(), dull, minimal().size(), setOf(minimal()), satisfiedSet(), links,
            widest}[what];
    }

    int together(int place) {
        if (world == null) {
            return STATE;
        }
        List<Integer> way = wayOfAll();
        if (place == NONE) {
            return way == null ? NONE : way.size();
        }
        return at(way, place);
    }

    private BigInteger waysFrom(int state, int length, boolean[] wanted, Map<Integer, BigInteger> known) {
        if (length == 0) {
            return wanted[state] ? BigInteger.ONE : BigInteger.ZERO;
        }
        BigInteger sum = known.get(state * 100 + length);
        if (sum == null) {
            sum = BigInteger.ZERO;
            for (Act act : world.acts()) {
                if (can(act, state)) {
                    sum = sum.add(waysFrom(after(act, state), length - 1, wanted, known));
                }
            }
            known.put(state * 100 + length, sum);
        }
        return sum;
    }

    int ways(int length) {
        if (world == null) {
            return STATE;
        }
        if (length < 0 || length > 12) {
            return OUTSIDE;
        }
        return waysFrom(now(), length, allGoalStates(), new HashMap<>()).mod(BigInteger.valueOf(1000000)).intValue();
    }

    int count(int what) {
        if (what < 0 || what > 5) {
            return OUTSIDE;
        }
        return new int[] {world == null ? 0 : world.acts().size(), page.length(), steps.size(), worldsRead,
            turnsPassed, undone}[what];
    }

    long digest() {
        List<Integer> values = new ArrayList<>();
        if (world != null) {
            for (int what = 0; what < 7; what++) {
                values.add(about(what));
            }
            for (int who = 0; who < world.people().size(); who++) {
                for (int what = 0; what < 8; what++) {
                    values.add(one(who, what));
                }
                List<Integer> plan = planOf(who);
                values.addAll(plan == null ? List.of() : plan);
            }
            for (int act = 0; act < world.acts().size(); act++) {
                for (int what = 0; what < 7; what++) {
                    values.add(deed(act, what));
                }
            }
            for (int step = 0; step < steps.size(); step++) {
                for (int what = 0; what < 9; what++) {
                    values.add(step(step, what));
                }
            }
            for (int what = 0; what < 7; what++) {
                values.add(story(what));
            }
            values.add(together(NONE));
            List<Integer> way = wayOfAll();
            values.addAll(way == null ? List.of() : way);
            for (int length = 0; length < 5; length++) {
                values.add(ways(length));
            }
        }
        for (char c : page.toCharArray()) {
            values.add((int) c);
        }
        for (int what = 0; what < 6; what++) {
            values.add(count(what));
        }
        long h = 1597;
        for (int v : values) {
            h = 31 * h + v;
        }
        return h;
    }
}
