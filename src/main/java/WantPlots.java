/**
 * Stories that arise from the goals of characters, by automated planning.
 *
 * <p>Sets of facts, characters, acts and steps are held as bits of an int throughout: bit k stands
 * for number k. What has to be true and what has to be false, of a goal or of an act, is always a
 * pair of such sets, so that one test serves them all.
 */
public final class WantPlots {
    public static final int NONE = -1, UNKNOWN = -101, OUTSIDE = -102, STATE = -103, FULL = -104;

    private static final int FACTS = 8;
    private static final int STATES = 256;
    private static final int ALL_FACTS = 255;
    private static final int MAX_PEOPLE = 4;
    private static final int MAX_ACTS = 10;
    private static final int MAX_STEPS = 30;
    private static final int MAX_PAGE = 90;
    private static final int MAX_TURNS = 20;
    private static final int MAX_WAY = 12;
    private static final int WAYS_MODULUS = 1000000;
    private static final int SEEN_OFTEN = 2;
    private static final int FIRST_CODE = 32, LAST_CODE = 126;
    private static final int SLY = 1, KEEN = 2, IDLE = 3;

    private final Page sheet;
    private final Reader reader;
    private final Story tale;
    private final Search search;
    private final Search probe;
    private final Counter counter;
    // The page is read into the spare world, so that a page that is no world leaves the present one.
    private World present;
    private World spare;
    private boolean hasWorld;
    private int worldsRead;
    private int turnsPassed;
    private int stepsUndone;

    /** Creates an object without a world, with an empty page. */
    public WantPlots() {
        sheet = new Page();
        reader = new Reader();
        tale = new Story();
        search = new Search();
        probe = new Search();
        counter = new Counter();
        present = new World();
        spare = new World();
    }

    // ---- texts

    /** Appends a character to the page and returns the new length; OUTSIDE, FULL. */
    public int letter(int code) {
        if (code < FIRST_CODE || code > LAST_CODE) {
            return OUTSIDE;
        }
        if (sheet.length >= MAX_PAGE) {
            return FULL;
        }
        sheet.append(code);
        return sheet.length;
    }

    /** Empties the page and returns the length that it had. */
    public int blank() {
        int length = sheet.length;
        sheet.length = 0;
        return length;
    }

    /** Returns the first position at which the page cannot be a world's text any more, or its length. */
    public int fault() {
        return reader.read(sheet, spare);
    }

    /** Reads the page as the world and returns the number of its acts; STATE. */
    public int world() {
        int end = reader.read(sheet, spare);
        if (end < sheet.length || !reader.isComplete(spare)) {
            return STATE;
        }
        World read = spare;
        spare = present;
        present = read;
        hasWorld = true;
        worldsRead++;
        tale.begin(present.firstFacts);
        sheet.length = 0;
        return present.acts;
    }

    // ---- the story

    /** Lets n turns pass and returns how many steps were added; OUTSIDE, STATE. */
    public int go(int n) {
        if (n < 1 || n > MAX_TURNS) {
            return OUTSIDE;
        }
        if (!hasWorld) {
            return STATE;
        }
        int before = tale.size;
        for (int i = 0; i < n && tale.size < MAX_STEPS; i++) {
            passTurn();
        }
        return tale.size - before;
    }

    /** Lets fate change a fact and returns the number of steps then; STATE, UNKNOWN, FULL. */
    public int fate(int fact) {
        if (!hasWorld) {
            return STATE;
        }
        if (fact < 0 || fact >= FACTS) {
            return UNKNOWN;
        }
        if (tale.size >= MAX_STEPS) {
            return FULL;
        }
        tale.addFate(fact);
        return tale.size;
    }

    /** Does an act out of turn and returns the number of steps then; STATE, UNKNOWN, OUTSIDE, FULL. */
    public int act(int act) {
        if (!hasWorld) {
            return STATE;
        }
        if (!isAct(act)) {
            return UNKNOWN;
        }
        if (!canBeDone(act)) {
            return OUTSIDE;
        }
        if (tale.size >= MAX_STEPS) {
            return FULL;
        }
        tale.addAct(present, act);
        return tale.size;
    }

    /** Undoes the last step and returns the number of steps left; STATE. */
    public int undo() {
        if (tale.size < 1) {
            return STATE;
        }
        tale.removeLast();
        stepsUndone++;
        return tale.size;
    }

    // ---- what is told

    /** Returns a property of the world or the story; OUTSIDE, STATE. */
    public int about(int what) {
        if (what < 0 || what > 6) {
            return OUTSIDE;
        }
        if (!hasWorld) {
            return STATE;
        }
        switch (what) {
            case 0:
                return present.people;
            case 1:
                return present.acts;
            case 2:
                return tale.size;
            case 3:
                return tale.nextTurn;
            case 4:
                return tale.facts;
            case 5:
                return tale.firstFacts;
            default:
                return present.satisfiedBy(tale.facts);
        }
    }

    /** Returns a property of a character; UNKNOWN, OUTSIDE. */
    public int one(int who, int what) {
        if (!isPerson(who)) {
            return UNKNOWN;
        }
        switch (what) {
            case 0:
                return present.kind[who];
            case 1:
                return present.goalFact[who];
            case 2:
                return present.wantsTrue[who] != 0 ? 1 : 0;
            case 3:
                return repertoire(who);
            case 4:
                return stepsOf(who);
            case 5:
                seekPlan(who);
                return search.length;
            case 6:
                seekPlan(who);
                return search.firstAct();
            case 7:
                return choice(who, 0);
            default:
                return OUTSIDE;
        }
    }

    /** Returns an act of the plan of a character by the repertoire; UNKNOWN. */
    public int plan(int who, int place) {
        if (!isPerson(who)) {
            return UNKNOWN;
        }
        seekPlan(who);
        return search.actAt(place);
    }

    /** Returns an act of the foil of a character against another one; UNKNOWN. */
    public int foil(int who, int against, int place) {
        if (!isPerson(who) || !isPerson(against) || who == against) {
            return UNKNOWN;
        }
        seekFoil(who, against);
        return search.actAt(place);
    }

    /** Returns a property of an act; UNKNOWN, OUTSIDE. */
    public int deed(int act, int what) {
        if (!isAct(act)) {
            return UNKNOWN;
        }
        switch (what) {
            case 0:
                return present.owner[act];
            case 1:
                return present.needsTrue[act];
            case 2:
                return present.needsFalse[act];
            case 3:
                return present.makesTrue[act];
            case 4:
                return present.makesFalse[act];
            case 5:
                return canBeDone(act) ? 1 : 0;
            case 6:
                return tale.timesDone[act];
            default:
                return OUTSIDE;
        }
    }

    /** Returns a property of a step; UNKNOWN, OUTSIDE. */
    public int step(int step, int what) {
        if (step < 0 || step >= tale.size) {
            return UNKNOWN;
        }
        switch (what) {
            case 0:
                return tale.actOf[step];
            case 1:
                return isAct(tale.actOf[step]) ? present.owner[tale.actOf[step]] : NONE;
            case 2:
                return tale.factOf[step];
            case 3:
                return tale.factsAfter[step];
            case 4:
                return tale.links[step];
            case 5:
                return tale.depends[step];
            case 6:
                return tale.threadOf(step);
            case 7:
                return tale.isDull(step, tale.allSteps(), finalTrue(), finalFalse()) ? 1 : 0;
            case 8:
                return tale.turnOf[step];
            default:
                return OUTSIDE;
        }
    }

    /** Returns a property of all steps; OUTSIDE, STATE. */
    public int story(int what) {
        if (what < 0 || what > 6) {
            return OUTSIDE;
        }
        if (!hasWorld) {
            return STATE;
        }
        switch (what) {
            case 0:
                return tale.threadsBefore(tale.size);
            case 1:
                return tale.dullSteps(finalTrue(), finalFalse());
            case 2:
                return Integer.bitCount(tale.minimalSteps(finalTrue(), finalFalse()));
            case 3:
                return tale.minimalSteps(finalTrue(), finalFalse());
            case 4:
                return present.satisfiedBy(tale.facts);
            case 5:
                return tale.allLinks();
            default:
                return tale.widestLink();
        }
    }

    /** Returns the length, or an act, of the shortest way to all goals at once; STATE, UNKNOWN, NONE. */
    public int together(int place) {
        if (!hasWorld) {
            return STATE;
        }
        seekTogether();
        return place == NONE ? search.length : search.actAt(place);
    }

    /** Counts the sequences of acts after which all goals are satisfied; STATE, OUTSIDE. */
    public int ways(int length) {
        if (!hasWorld) {
            return STATE;
        }
        if (length < 0 || length > MAX_WAY) {
            return OUTSIDE;
        }
        return counter.waysToAll(present, tale.facts, length);
    }

    // ---- what is told of all

    /** Returns a count; OUTSIDE. */
    public int count(int what) {
        switch (what) {
            case 0:
                return present.acts;
            case 1:
                return sheet.length;
            case 2:
                return tale.size;
            case 3:
                return worldsRead;
            case 4:
                return turnsPassed;
            case 5:
                return stepsUndone;
            default:
                return OUTSIDE;
        }
    }

    /** Returns a digest of all that is told. */
    public long digest() {
        long h = 1597;
        if (hasWorld) {
            for (int what = 0; what <= 6; what++) {
                h = 31 * h + about(what);
            }
            for (int who = 0; who < present.people; who++) {
                for (int what = 0; what <= 7; what++) {
                    h = 31 * h + one(who, what);
                }
                seekPlan(who);
                h = withPath(h);
            }
            h = withActs(h);
            h = withSteps(h);
            h = withWays(h);
        }
        for (int i = 0; i < sheet.length; i++) {
            h = 31 * h + sheet.codes[i];
        }
        for (int what = 0; what <= 5; what++) {
            h = 31 * h + count(what);
        }
        return h;
    }

    // ---- parts of the digest: each goes on from the digest so far

    private long withActs(long digest) {
        long h = digest;
        for (int act = 0; act < present.acts; act++) {
            for (int what = 0; what <= 6; what++) {
                h = 31 * h + deed(act, what);
            }
        }
        return h;
    }

    private long withSteps(long digest) {
        long h = digest;
        for (int step = 0; step < tale.size; step++) {
            for (int what = 0; what <= 8; what++) {
                h = 31 * h + step(step, what);
            }
        }
        for (int what = 0; what <= 6; what++) {
            h = 31 * h + story(what);
        }
        return h;
    }

    private long withWays(long digest) {
        seekTogether();
        long h = withPath(31 * digest + search.length);
        for (int length = 0; length <= 4; length++) {
            h = 31 * h + ways(length);
        }
        return h;
    }

    /** Takes in the acts of the path that the last search has found, if there is one. */
    private long withPath(long digest) {
        long h = digest;
        for (int place = 0; place < search.length; place++) {
            h = 31 * h + search.actAt(place);
        }
        return h;
    }

    // ---- characters and acts

    private boolean isPerson(int who) {
        return who >= 0 && who < present.people;
    }

    private boolean isAct(int act) {
        return act >= 0 && act < present.acts;
    }

    private boolean canBeDone(int act) {
        return isAct(act) && holds(tale.facts, present.needsTrue[act], present.needsFalse[act]);
    }

    private boolean isSatisfied(int who) {
        return isPerson(who) && holds(tale.facts, present.wantsTrue[who], present.wantsFalse[who]);
    }

    private int repertoire(int who) {
        boolean learns = isPerson(who) && present.kind[who] == KEEN;
        int set = 0;
        for (int act = 0; act < present.acts; act++) {
            if (present.owner[act] == who || learns && tale.timesDone[act] >= SEEN_OFTEN) {
                set |= 1 << act;
            }
        }
        return set;
    }

    private int stepsOf(int who) {
        int steps = 0;
        for (int act = 0; act < present.acts; act++) {
            if (present.owner[act] == who) {
                steps += tale.timesDone[act];
            }
        }
        return steps;
    }

    private int finalTrue() {
        return present.goalsToBeTrue(present.satisfiedBy(tale.facts));
    }

    private int finalFalse() {
        return present.goalsToBeFalse(present.satisfiedBy(tale.facts));
    }

    // ---- turns and plans

    private void passTurn() {
        int people = present.people;
        if (people < 1) {
            return;
        }
        int act = choice(tale.nextTurn % people, tale.nextTurn / people);
        if (isAct(act)) {
            tale.addAct(present, act);
        }
        tale.nextTurn++;
        turnsPassed++;
    }

    /** The act that a character does in a turn of a round, or NONE. */
    private int choice(int who, int round) {
        if (!isPerson(who) || isSatisfied(who)) {
            return NONE;
        }
        int kind = present.kind[who];
        if (kind == IDLE && round % 2 == 1) {
            return NONE;
        }
        if (kind == SLY && present.people >= 2) {
            int rival = who + 1 < present.people ? who + 1 : 0;
            seekPlan(rival);
            if (search.length >= 1) {
                seekFoil(who, rival);
                if (search.length >= 1) {
                    return search.firstAct();
                }
            }
        }
        seekPlan(who);
        return search.firstAct();
    }

    private void seekPlan(int who) {
        if (isPerson(who)) {
            search.seek(present, repertoire(who), tale.facts, present.wantsTrue[who], present.wantsFalse[who]);
        }
    }

    private void seekTogether() {
        int all = present.everybody();
        search.seek(present, present.everyAct(), tale.facts,
                present.goalsToBeTrue(all), present.goalsToBeFalse(all));
    }

    /** Looks for a state in which the other one has no plan, with a search of its own in each state. */
    private void seekFoil(int who, int against) {
        int acts = repertoire(who);
        int others = repertoire(against);
        search.begin(tale.facts);
        if (!isPerson(against)) {
            return;
        }
        int yes = present.wantsTrue[against];
        int no = present.wantsFalse[against];
        for (int head = 0; head < STATES && head < search.size; head++) {
            probe.seek(present, others, search.queue[head], yes, no);
            if (probe.length == NONE) {
                search.end(head);
                return;
            }
            search.spread(present, acts, head);
        }
    }

    // ---- facts

    private static boolean holds(int facts, int yes, int no) {
        return (facts & yes) == yes && (facts & no) == 0;
    }

    private static int changed(int facts, int makesTrue, int makesFalse) {
        return (facts | makesTrue) & ~makesFalse & ALL_FACTS;
    }

    private static boolean contains(int set, int number) {
        return (set >> number & 1) != 0;
    }

    /** The page on which the text of a world is written. */
    private static final class Page {
        final int[] codes = new int[MAX_PAGE];
        int length;

        void append(int code) {
            if (length < MAX_PAGE) {
                codes[length] = code;
                length++;
            }
        }
    }

    /** The characters, the acts and the first facts. */
    private static final class World {
        final int[] kind = new int[MAX_PEOPLE];
        final int[] goalFact = new int[MAX_PEOPLE];
        final int[] wantsTrue = new int[MAX_PEOPLE];
        final int[] wantsFalse = new int[MAX_PEOPLE];
        final int[] owner = new int[MAX_ACTS];
        final int[] needsTrue = new int[MAX_ACTS];
        final int[] needsFalse = new int[MAX_ACTS];
        final int[] makesTrue = new int[MAX_ACTS];
        final int[] makesFalse = new int[MAX_ACTS];
        int people;
        int acts;
        int firstFacts;

        void clear() {
            people = 0;
            acts = 0;
            firstFacts = 0;
        }

        void addPerson(int kindOfPerson) {
            if (people < MAX_PEOPLE) {
                kind[people] = kindOfPerson;
                people++;
            }
        }

        void addAct(int ownerOfAct) {
            if (acts < MAX_ACTS) {
                owner[acts] = ownerOfAct;
                needsTrue[acts] = 0;
                needsFalse[acts] = 0;
                makesTrue[acts] = 0;
                makesFalse[acts] = 0;
                acts++;
            }
        }

        int everybody() {
            return (1 << people) - 1;
        }

        int everyAct() {
            return (1 << acts) - 1;
        }

        int satisfiedBy(int facts) {
            int set = 0;
            for (int who = 0; who < people; who++) {
                if (holds(facts, wantsTrue[who], wantsFalse[who])) {
                    set |= 1 << who;
                }
            }
            return set;
        }

        int goalsToBeTrue(int set) {
            return factsOf(wantsTrue, set);
        }

        int goalsToBeFalse(int set) {
            return factsOf(wantsFalse, set);
        }

        private int factsOf(int[] wants, int set) {
            int facts = 0;
            for (int who = 0; who < people && who < wants.length; who++) {
                if (contains(set, who)) {
                    facts |= wants[who];
                }
            }
            return facts;
        }
    }

    /** Reads a page sign by sign; it refuses a sign as soon as no world's text can go on with it. */
    private static final class Reader {
        private static final int KIND = 0, SIGN = 1, GOAL = 2, AFTER_GOAL = 3, FIRST_FACTS = 4;
        private static final int OWNER = 5, NEEDS_TRUE = 6, NEEDS_FALSE = 7, MAKES_TRUE = 8, MAKES_FALSE = 9;

        // What is read now, and the latest fact of the facts that stand together there.
        private int part;
        private int latest;
        private boolean goalIsTrue;

        /** Returns the position of the first sign that is refused, or the length of the page. */
        int read(Page from, World into) {
            into.clear();
            moveTo(KIND);
            for (int i = 0; i < from.length; i++) {
                if (!takes(into, from.codes[i])) {
                    return i;
                }
            }
            return from.length;
        }

        /** Whether the text may end where the reading has ended. */
        boolean isComplete(World into) {
            int last = into.acts - 1;
            if (last < 0 || last >= MAX_ACTS) {
                return false;
            }
            return part == MAKES_TRUE && into.makesTrue[last] != 0
                    || part == MAKES_FALSE && into.makesFalse[last] != 0;
        }

        private boolean moveTo(int next) {
            part = next;
            latest = NONE;
            return true;
        }

        private boolean takes(World into, int code) {
            switch (part) {
                case KIND:
                    return takesKind(into, code);
                case SIGN:
                    return takesSign(code);
                case GOAL:
                    return takesGoal(into, code);
                case AFTER_GOAL:
                    return takesAfterGoal(into, code);
                case FIRST_FACTS:
                    return takesFirstFact(into, code);
                case OWNER:
                    return takesOwner(into, code);
                default:
                    return takesInAct(into, code);
            }
        }

        private boolean takesInAct(World into, int code) {
            int act = into.acts - 1;
            if (act < 0 || act >= MAX_ACTS) {
                return false;
            }
            return part == NEEDS_TRUE || part == NEEDS_FALSE
                    ? takesInNeeds(into, act, code) : takesInMakes(into, act, code);
        }

        private boolean takesKind(World into, int code) {
            int kind = code == 'p' ? 0 : code == 's' ? SLY : code == 'k' ? KEEN : code == 'i' ? IDLE : NONE;
            if (kind == NONE || into.people >= MAX_PEOPLE) {
                return false;
            }
            into.addPerson(kind);
            return moveTo(SIGN);
        }

        private boolean takesSign(int code) {
            goalIsTrue = code == '+';
            return (code == '+' || code == '-') && moveTo(GOAL);
        }

        private boolean takesGoal(World into, int code) {
            int who = into.people - 1;
            int fact = factOf(code);
            if (fact == NONE || who < 0 || who >= MAX_PEOPLE) {
                return false;
            }
            into.goalFact[who] = fact;
            into.wantsTrue[who] = goalIsTrue ? 1 << fact : 0;
            into.wantsFalse[who] = goalIsTrue ? 0 : 1 << fact;
            return moveTo(AFTER_GOAL);
        }

        private boolean takesAfterGoal(World into, int code) {
            if (code == ',') {
                return into.people < MAX_PEOPLE && moveTo(KIND);
            }
            return code == ';' && moveTo(FIRST_FACTS);
        }

        private boolean takesFirstFact(World into, int code) {
            if (code == ':') {
                return moveTo(OWNER);
            }
            int fact = factOf(code);
            if (!isNext(fact)) {
                return false;
            }
            into.firstFacts |= 1 << fact;
            latest = fact;
            return true;
        }

        private boolean takesOwner(World into, int code) {
            int who = code - '0';
            if (who < 0 || who >= into.people || into.acts >= MAX_ACTS) {
                return false;
            }
            into.addAct(who);
            return moveTo(NEEDS_TRUE);
        }

        private boolean takesInNeeds(World into, int act, int code) {
            boolean ofTrue = part == NEEDS_TRUE;
            if (code == '>') {
                return (ofTrue || into.needsFalse[act] != 0) && moveTo(MAKES_TRUE);
            }
            if (code == '-') {
                return ofTrue && into.needsTrue[act] != ALL_FACTS && moveTo(NEEDS_FALSE);
            }
            return ofTrue ? takesFact(into.needsTrue, act, 0, code)
                    : takesFact(into.needsFalse, act, into.needsTrue[act], code);
        }

        private boolean takesInMakes(World into, int act, int code) {
            boolean ofTrue = part == MAKES_TRUE;
            if (code == ',') {
                return isComplete(into) && into.acts < MAX_ACTS && moveTo(OWNER);
            }
            if (code == '-') {
                return ofTrue && into.makesTrue[act] != ALL_FACTS && moveTo(MAKES_FALSE);
            }
            return ofTrue ? takesFact(into.makesTrue, act, 0, code)
                    : takesFact(into.makesFalse, act, into.makesTrue[act], code);
        }

        /** Takes a fact into the set of an act, unless it is excluded. */
        private boolean takesFact(int[] sets, int act, int excluded, int code) {
            int fact = factOf(code);
            if (act < 0 || act >= sets.length || !isNext(fact) || contains(excluded, fact)) {
                return false;
            }
            sets[act] |= 1 << fact;
            latest = fact;
            return true;
        }

        private boolean isNext(int fact) {
            return fact != NONE && fact > latest;
        }

        private static int factOf(int code) {
            return code >= 'a' && code < 'a' + FACTS ? code - 'a' : NONE;
        }
    }

    /** The steps, with what each of them needs and makes, so that a step of fate is like an act. */
    private static final class Story {
        final int[] actOf = new int[MAX_STEPS];
        final int[] factOf = new int[MAX_STEPS];
        final int[] turnOf = new int[MAX_STEPS];
        final int[] factsAfter = new int[MAX_STEPS];
        final int[] links = new int[MAX_STEPS];
        final int[] depends = new int[MAX_STEPS];
        final int[] timesDone = new int[MAX_ACTS];
        private final int[] needsTrue = new int[MAX_STEPS];
        private final int[] needsFalse = new int[MAX_STEPS];
        private final int[] makesTrue = new int[MAX_STEPS];
        private final int[] makesFalse = new int[MAX_STEPS];
        private final int[] firstOfThread = new int[MAX_STEPS];
        int size;
        int nextTurn;
        int facts;
        int firstFacts;

        void begin(int factsAtFirst) {
            size = 0;
            nextTurn = 0;
            firstFacts = factsAtFirst;
            facts = factsAtFirst;
            for (int act = 0; act < MAX_ACTS; act++) {
                timesDone[act] = 0;
            }
        }

        void addAct(World of, int act) {
            if (size >= MAX_STEPS || act < 0 || act >= MAX_ACTS) {
                return;
            }
            actOf[size] = act;
            factOf[size] = NONE;
            needsTrue[size] = of.needsTrue[act];
            needsFalse[size] = of.needsFalse[act];
            makesTrue[size] = of.makesTrue[act];
            makesFalse[size] = of.makesFalse[act];
            timesDone[act]++;
            closeStep();
        }

        void addFate(int fact) {
            if (size >= MAX_STEPS) {
                return;
            }
            int bit = 1 << fact;
            actOf[size] = NONE;
            factOf[size] = fact;
            needsTrue[size] = 0;
            needsFalse[size] = 0;
            makesTrue[size] = bit & ~facts;
            makesFalse[size] = bit & facts;
            closeStep();
        }

        /** Ends the adding of a step whose needs and effects are written down: there is room for it. */
        private void closeStep() {
            facts = changed(facts, makesTrue[size], makesFalse[size]);
            factsAfter[size] = facts;
            turnOf[size] = nextTurn;
            linkBack(size);
            sortIntoThread(size);
            size++;
        }

        /** Goes back from the step, so that each need is met by the latest step that meets it. */
        private void linkBack(int step) {
            int openTrue = needsTrue[step];
            int openFalse = needsFalse[step];
            links[step] = 0;
            depends[step] = 0;
            for (int earlier = step - 1; earlier >= 0; earlier--) {
                if ((openTrue & makesTrue[earlier]) != 0 || (openFalse & makesFalse[earlier]) != 0) {
                    links[step] |= 1 << earlier;
                    depends[step] |= 1 << earlier | depends[earlier];
                    openTrue &= ~makesTrue[earlier];
                    openFalse &= ~makesFalse[earlier];
                }
            }
        }

        void removeLast() {
            if (size < 1) {
                return;
            }
            size--;
            int act = actOf[size];
            if (act >= 0 && act < MAX_ACTS) {
                timesDone[act]--;
            }
            facts = size > 0 ? factsAfter[size - 1] : firstFacts;
            // The last step may have joined threads that are apart without it.
            for (int step = 0; step < size; step++) {
                sortIntoThread(step);
            }
        }

        int allSteps() {
            return (1 << size) - 1;
        }

        int allLinks() {
            int sum = 0;
            for (int step = 0; step < size; step++) {
                sum += Integer.bitCount(links[step]);
            }
            return sum;
        }

        int widestLink() {
            int widest = 0;
            for (int step = 0; step < size; step++) {
                for (int earlier = 0; earlier < step; earlier++) {
                    if (contains(links[step], earlier)) {
                        widest = Math.max(widest, step - earlier);
                    }
                }
            }
            return widest;
        }

        /** Puts a step, later than all that are in threads, into the thread that its links make one. */
        private void sortIntoThread(int step) {
            firstOfThread[step] = step;
            for (int earlier = 0; earlier < step; earlier++) {
                if (contains(links[step], earlier)) {
                    joinThreads(firstOfThread[earlier], firstOfThread[step], step);
                }
            }
        }

        private void joinThreads(int thread, int other, int last) {
            int first = Math.min(thread, other);
            int second = Math.max(thread, other);
            for (int step = second; step <= last; step++) {
                if (firstOfThread[step] == second) {
                    firstOfThread[step] = first;
                }
            }
        }

        /** The number of threads whose first steps come before a step. */
        int threadsBefore(int end) {
            int threads = 0;
            for (int step = 0; step < end && step < size; step++) {
                if (firstOfThread[step] == step) {
                    threads++;
                }
            }
            return threads;
        }

        int threadOf(int step) {
            return step >= 0 && step < size ? threadsBefore(firstOfThread[step]) : NONE;
        }

        /** Whether the steps of a set can be done without the others, and lead to the goals. */
        private boolean isValid(int set, int yes, int no) {
            int state = firstFacts;
            for (int step = 0; step < size; step++) {
                if (contains(set, step)) {
                    if (!holds(state, needsTrue[step], needsFalse[step])) {
                        return false;
                    }
                    state = changed(state, makesTrue[step], makesFalse[step]);
                }
            }
            return holds(state, yes, no);
        }

        boolean isDull(int step, int set, int yes, int no) {
            return contains(set, step) && isValid(set & ~(1 << step), yes, no);
        }

        int dullSteps(int yes, int no) {
            int all = allSteps();
            int dull = 0;
            for (int step = 0; step < size; step++) {
                if (isDull(step, all, yes, no)) {
                    dull++;
                }
            }
            return dull;
        }

        private int firstDull(int set, int yes, int no) {
            for (int step = 0; step < size; step++) {
                if (isDull(step, set, yes, no)) {
                    return step;
                }
            }
            return NONE;
        }

        int minimalSteps(int yes, int no) {
            int set = allSteps();
            for (int left = size; left > 0; left--) {
                int dull = firstDull(set, yes, no);
                if (dull == NONE) {
                    break;
                }
                set &= ~(1 << dull);
            }
            return set;
        }
    }

    /**
     * Goes through the states that can be reached from a state by a set of acts, the nearest first.
     * As the acts are tried in ascending order, states that are equally near stand in the queue in
     * the order of their lexicographically first shortest paths: the first state in the queue that
     * is wanted ends the path that is due.
     */
    private static final class Search {
        final int[] queue = new int[STATES];
        int size;
        // The number of acts of the path that was found; NONE if there is none.
        int length = NONE;
        private final int[] from = new int[STATES];
        private final int[] by = new int[STATES];
        private final int[] depth = new int[STATES];
        private final int[] path = new int[STATES];
        // A state is reached if it bears the number of this search; so nothing needs to be wiped.
        private final int[] reached = new int[STATES];
        private int number;

        void begin(int state) {
            int start = state & ALL_FACTS;
            number++;
            length = NONE;
            reached[start] = number;
            queue[0] = start;
            depth[0] = 0;
            size = 1;
        }

        /** Looks for the path to a state in which the facts of yes are true and those of no false. */
        void seek(World in, int acts, int state, int yes, int no) {
            begin(state);
            for (int head = 0; head < STATES && head < size; head++) {
                if (holds(queue[head], yes, no)) {
                    end(head);
                    return;
                }
                spread(in, acts, head);
            }
        }

        /** Appends the states that one act more leads to, from a state of the queue. */
        void spread(World in, int acts, int head) {
            if (head < 0 || head >= STATES) {
                return;
            }
            int state = queue[head];
            for (int act = 0; act < in.acts; act++) {
                if (contains(acts, act) && holds(state, in.needsTrue[act], in.needsFalse[act])) {
                    int next = changed(state, in.makesTrue[act], in.makesFalse[act]);
                    if (reached[next] != number && size < STATES) {
                        reached[next] = number;
                        queue[size] = next;
                        from[size] = head;
                        by[size] = act;
                        depth[size] = depth[head] + 1;
                        size++;
                    }
                }
            }
        }

        /** Writes down the path to a state of the queue as the one that was found. */
        void end(int head) {
            if (head < 0 || head >= STATES) {
                return;
            }
            length = depth[head];
            int at = head;
            for (int place = length - 1; place >= 0 && place < STATES; place--) {
                path[place] = by[at];
                at = from[at];
            }
        }

        int firstAct() {
            return length >= 1 ? path[0] : NONE;
        }

        int actAt(int place) {
            return place >= 0 && place < length && place < STATES ? path[place] : UNKNOWN;
        }
    }

    /** Counts ways: for each state, those of a number of acts that end there. */
    private static final class Counter {
        private int[] ending = new int[STATES];
        private int[] longer = new int[STATES];

        int waysToAll(World in, int state, int length) {
            wipe(ending);
            ending[state & ALL_FACTS] = 1;
            for (int i = 0; i < length; i++) {
                lengthen(in);
            }
            int everybody = in.everybody();
            int yes = in.goalsToBeTrue(everybody);
            int no = in.goalsToBeFalse(everybody);
            int sum = 0;
            for (int end = 0; end < STATES; end++) {
                if (holds(end, yes, no)) {
                    sum = (sum + ending[end]) % WAYS_MODULUS;
                }
            }
            return sum;
        }

        private void lengthen(World in) {
            wipe(longer);
            for (int state = 0; state < STATES; state++) {
                if (ending[state] != 0) {
                    lengthenFrom(in, state);
                }
            }
            int[] old = ending;
            ending = longer;
            longer = old;
        }

        private void lengthenFrom(World in, int state) {
            for (int act = 0; act < in.acts; act++) {
                if (holds(state, in.needsTrue[act], in.needsFalse[act])) {
                    int next = changed(state, in.makesTrue[act], in.makesFalse[act]);
                    longer[next] = (longer[next] + ending[state]) % WAYS_MODULUS;
                }
            }
        }

        private static void wipe(int[] numbers) {
            for (int i = 0; i < numbers.length; i++) {
                numbers[i] = 0;
            }
        }
    }
}
