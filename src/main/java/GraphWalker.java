/** Works terms by need: a thing is worked once, when it is needed first, and shared. */
public final class GraphWalker {
    public static final int NONE = -1;

    private static final int MOST_TERMS = 200;
    private static final int GREATEST_VARIABLE = 60;
    private static final int MOST_STEPS = 5000;
    private static final int MOST_THERE = 300;
    private static final int MOST_MADE = 1000;
    private static final int MOST_PLACES = 1000;
    private static final int MOST_ENTRIES = 300;

    private static final int NO_RUN = 0;
    private static final int GOES_ON = 1;
    private static final int RUN_DONE = 2;
    private static final int ENDLESS = 3;
    private static final int WRONG = 4;
    private static final int ROOM = 5;

    private static final int NUMBER = 0;
    private static final int VARIABLE = 1;
    private static final int LAMBDA = 2;
    private static final int FIRST = 3;
    private static final int SECOND = 4;
    private static final int APPLY = 5;
    private static final int LET = 6;
    private static final int PAIR = 7;
    private static final int ACT = 8;
    private static final int CHOOSE = 9;

    private static final int WAITING = 0;
    private static final int IN_WORK = 1;
    private static final int DONE = 2;
    private static final int GONE = 3;

    private static final int A_NUMBER = 0;
    private static final int A_LAMBDA = 1;
    private static final int A_PAIR = 2;

    private static final int IT_WAS_THAT = 0;
    private static final int GIVE_IT = 1;
    private static final int THEN_B = 2;
    private static final int ACT_WITH_IT = 3;
    private static final int CHOOSE_ONE = 4;
    private static final int TAKE_FIRST = 5;
    private static final int TAKE_SECOND = 6;

    private static final int HAND_TERM = 0;
    private static final int HAND_VALUE = 1;
    private static final int HAND_THING = 2;

    private static final int QUOTIENT = 3;
    private static final int GREATEST_TOLD = 7;
    private static final int GREATEST_WORKED = 2;

    private final Walk walk;

    public GraphWalker() {
        walk = new Walk();
    }

    public int number(long v) throws IllegalStateException {
        refuseTermBeyondMost();
        return walk.terms.addNumber(v);
    }

    public int variable(int i) throws IllegalStateException, IllegalArgumentException {
        refuseTermBeyondMost();
        if (i < 0 || i > GREATEST_VARIABLE) {
            throw new IllegalArgumentException("a variable is 0 to 60");
        }
        return walk.terms.addVariable(i);
    }

    public int one(int sort, int t)
            throws IndexOutOfBoundsException, IllegalStateException, IllegalArgumentException {
        refuseMissingTerm(t);
        refuseTermBeyondMost();
        if (sort < 0 || sort > 2) {
            throw new IllegalArgumentException("a sort is 0 to 2");
        }
        return walk.terms.addOne(sort, t);
    }

    public int two(int sort, int a, int b)
            throws IndexOutOfBoundsException, IllegalStateException, IllegalArgumentException {
        refuseMissingTerm(a);
        refuseMissingTerm(b);
        refuseTermBeyondMost();
        if (sort < 0 || sort > 8) {
            throw new IllegalArgumentException("a sort is 0 to 8");
        }
        return walk.terms.addTwo(sort, a, b);
    }

    public int choose(int c, int a, int b) throws IndexOutOfBoundsException, IllegalStateException {
        refuseMissingTerm(c);
        refuseMissingTerm(a);
        refuseMissingTerm(b);
        refuseTermBeyondMost();
        return walk.terms.addChoose(c, a, b);
    }

    public int lacks(int t) throws IndexOutOfBoundsException {
        refuseMissingTerm(t);
        return walk.terms.lackOf(t);
    }

    public void begin(int t, boolean sharing) throws IndexOutOfBoundsException, IllegalStateException {
        refuseMissingTerm(t);
        if (walk.terms.lackOf(t) != 0) {
            throw new IllegalStateException("the term is not closed");
        }
        walk.start(t, sharing);
    }

    public int run(int n) throws IllegalStateException, IllegalArgumentException {
        refuseMissingRun();
        if (n < 0 || n > MOST_STEPS) {
            throw new IllegalArgumentException("steps are 0 to 5000");
        }
        int done = 0;
        while (done < n && walk.outcome == GOES_ON) {
            walk.step();
            done++;
        }
        return done;
    }

    public void into(int which) throws IllegalStateException, IllegalArgumentException {
        if (walk.outcome != RUN_DONE || walk.value.sort != A_PAIR) {
            throw new IllegalStateException("there is no pair that is done");
        }
        if (which < 0 || which > 1) {
            throw new IllegalArgumentException("a pair has 0 and 1");
        }
        walk.turnTo(which == 0 ? walk.value.first : walk.value.second);
    }

    public int outcome() {
        return walk.outcome;
    }

    public int sort() {
        return walk.outcome == RUN_DONE ? walk.value.sort : NONE;
    }

    public long value() {
        return walk.outcome == RUN_DONE && walk.value.sort == A_NUMBER ? walk.value.number : 0L;
    }

    public int told(int what) throws IllegalArgumentException {
        if (what < 0 || what > GREATEST_TOLD) {
            throw new IllegalArgumentException("told is 0 to 7");
        }
        return walk.outcome == NO_RUN ? NONE : walk.tally(what);
    }

    public int thing(int k) throws IndexOutOfBoundsException {
        refuseMissingThing(k);
        return walk.things.stateOf(k);
    }

    public int worked(int k, int what) throws IndexOutOfBoundsException, IllegalArgumentException {
        refuseMissingThing(k);
        if (what < 0 || what > GREATEST_WORKED) {
            throw new IllegalArgumentException("worked is 0 to 2");
        }
        if (what == 0) {
            return walk.things.timesOf(k);
        }
        return what == 1 ? walk.things.neederOf(k) : walk.things.termOf(k);
    }

    public int ring(int k) throws IndexOutOfBoundsException {
        int found = walk.ringThing(k);
        if (found == NONE) {
            throw new IndexOutOfBoundsException("the ring has no such thing");
        }
        return found;
    }

    public int entry(int k) throws IndexOutOfBoundsException {
        if (!walk.row.has(k)) {
            throw new IndexOutOfBoundsException("there is no such entry");
        }
        return walk.row.kindOf(k);
    }

    public int collect() throws IllegalStateException {
        refuseMissingRun();
        return walk.sweepUnreached();
    }

    public int every(int steps) throws IllegalArgumentException {
        if (steps < 0 || steps > MOST_STEPS) {
            throw new IllegalArgumentException("every is 0 to 5000");
        }
        int before = walk.pace;
        walk.pace = steps;
        return before;
    }

    private void refuseMissingTerm(int t) {
        if (!walk.terms.has(t)) {
            throw new IndexOutOfBoundsException("there is no such term");
        }
    }

    private void refuseTermBeyondMost() {
        if (walk.terms.isFull()) {
            throw new IllegalStateException("there are 200 terms");
        }
    }

    private void refuseMissingRun() {
        if (walk.outcome == NO_RUN) {
            throw new IllegalStateException("there is no run");
        }
    }

    private void refuseMissingThing(int k) {
        if (!walk.things.has(k)) {
            throw new IndexOutOfBoundsException("there is no such thing");
        }
    }

    /** The terms: their parts are earlier terms, but for a variable's first part and an act's third. */
    private static final class Terms {
        private final int[] sorts = new int[MOST_TERMS];
        private final int[] firsts = new int[MOST_TERMS];
        private final int[] seconds = new int[MOST_TERMS];
        private final int[] thirds = new int[MOST_TERMS];
        private final long[] numbers = new long[MOST_TERMS];
        private final int[] lacking = new int[MOST_TERMS];
        private int count = 0;

        boolean has(int k) {
            return k >= 0 && k < count && k < MOST_TERMS;
        }

        boolean isFull() {
            return count >= MOST_TERMS;
        }

        int addNumber(long v) {
            return add(NUMBER, NONE, NONE, NONE, v, 0);
        }

        int addVariable(int i) {
            return add(VARIABLE, i, NONE, NONE, 0L, i + 1);
        }

        int addOne(int faceSort, int t) {
            if (faceSort == 0) {
                return add(LAMBDA, t, NONE, NONE, 0L, oneLess(lackOf(t)));
            }
            return add(faceSort == 1 ? FIRST : SECOND, t, NONE, NONE, 0L, lackOf(t));
        }

        int addTwo(int faceSort, int a, int b) {
            int lack = Math.max(lackOf(a), lackOf(b));
            switch (faceSort) {
                case 0:
                    return add(APPLY, a, b, NONE, 0L, lack);
                case 1:
                    return add(LET, a, b, NONE, 0L, oneLess(lack));
                case 2:
                    return add(PAIR, a, b, NONE, 0L, lack);
                default:
                    return add(ACT, a, b, faceSort - 3, 0L, lack);
            }
        }

        int addChoose(int c, int a, int b) {
            int lack = Math.max(lackOf(c), Math.max(lackOf(a), lackOf(b)));
            return add(CHOOSE, c, a, b, 0L, lack);
        }

        private static int oneLess(int lack) {
            return Math.max(lack - 1, 0);
        }

        private int add(int sort, int first, int second, int third, long number, int lack) {
            int k = count;
            if (k < 0 || k >= MOST_TERMS) {
                return NONE;
            }
            sorts[k] = sort;
            firsts[k] = first;
            seconds[k] = second;
            thirds[k] = third;
            numbers[k] = number;
            lacking[k] = lack;
            count = k + 1;
            return k;
        }

        int sortOf(int k) {
            return has(k) ? sorts[k] : NONE;
        }

        int firstOf(int k) {
            return has(k) ? firsts[k] : NONE;
        }

        int secondOf(int k) {
            return has(k) ? seconds[k] : NONE;
        }

        int thirdOf(int k) {
            return has(k) ? thirds[k] : NONE;
        }

        long numberOf(int k) {
            return has(k) ? numbers[k] : 0L;
        }

        int lackOf(int k) {
            return has(k) ? lacking[k] : 0;
        }
    }

    /** A value: of a lambda first is its term and second its places; of a pair they are its things. */
    private static final class Value {
        private int sort = A_NUMBER;
        private long number = 0L;
        private int first = NONE;
        private int second = NONE;

        void beNumber(long v) {
            be(A_NUMBER, v, NONE, NONE);
        }

        void beLambda(int term, int places) {
            be(A_LAMBDA, 0L, term, places);
        }

        void bePair(int a, int b) {
            be(A_PAIR, 0L, a, b);
        }

        void be(int newSort, long newNumber, int newFirst, int newSecond) {
            sort = newSort;
            number = newNumber;
            first = newFirst;
            second = newSecond;
        }
    }

    /** Places are chains from the innermost outward that share their outer parts. */
    private static final class Places {
        private final int[] held = new int[MOST_PLACES];
        private final int[] outers = new int[MOST_PLACES];
        private final int[] marks = new int[MOST_PLACES];
        private int made = 0;

        void clear() {
            made = 0;
        }

        boolean has(int p) {
            return p >= 0 && p < made && p < MOST_PLACES;
        }

        boolean isFull() {
            return made >= MOST_PLACES;
        }

        int add(int thing, int outer) {
            int p = made;
            if (p < 0 || p >= MOST_PLACES) {
                return NONE;
            }
            held[p] = thing;
            outers[p] = outer;
            made = p + 1;
            return p;
        }

        int heldBy(int p) {
            return has(p) ? held[p] : NONE;
        }

        int outerOf(int p) {
            return has(p) ? outers[p] : NONE;
        }

        int thingAt(int innermost, int index) {
            int p = innermost;
            for (int i = 0; i < index && has(p); i++) {
                p = outers[p];
            }
            return has(p) ? held[p] : NONE;
        }

        /** False if there is no such place or this round marked it already. */
        boolean mark(int p, int round) {
            if (p < 0 || p >= MOST_PLACES || marks[p] == round) {
                return false;
            }
            marks[p] = round;
            return true;
        }
    }

    /** All things that the run made, those that are there, and those that a round of collecting reached. */
    private static final class Things {
        private final int[] states = new int[MOST_MADE];
        private final int[] terms = new int[MOST_MADE];
        private final int[] places = new int[MOST_MADE];
        private final int[] times = new int[MOST_MADE];
        private final int[] needers = new int[MOST_MADE];
        private final int[] valueSorts = new int[MOST_MADE];
        private final long[] valueNumbers = new long[MOST_MADE];
        private final int[] valueFirsts = new int[MOST_MADE];
        private final int[] valueSeconds = new int[MOST_MADE];
        private final int[] marks = new int[MOST_MADE];
        private final int[] there = new int[MOST_THERE];
        private final int[] reached = new int[MOST_THERE];
        private int made = 0;
        private int thereCount = 0;
        private int reachedCount = 0;

        void clear() {
            made = 0;
            thereCount = 0;
            reachedCount = 0;
        }

        boolean has(int k) {
            return k >= 0 && k < made && k < MOST_MADE;
        }

        boolean hasRoomFor(int more) {
            return made + more <= MOST_MADE && thereCount + more <= MOST_THERE;
        }

        int add(int term, int itsPlaces) {
            int k = made;
            int at = thereCount;
            if (k < 0 || k >= MOST_MADE || at < 0 || at >= MOST_THERE) {
                return NONE;
            }
            states[k] = WAITING;
            terms[k] = term;
            places[k] = itsPlaces;
            times[k] = 0;
            needers[k] = NONE;
            there[at] = k;
            made = k + 1;
            thereCount = at + 1;
            return k;
        }

        int stateOf(int k) {
            return has(k) ? states[k] : GONE;
        }

        int termOf(int k) {
            return has(k) ? terms[k] : NONE;
        }

        int placesOf(int k) {
            return has(k) ? places[k] : NONE;
        }

        int timesOf(int k) {
            return has(k) ? times[k] : 0;
        }

        int neederOf(int k) {
            return has(k) ? needers[k] : NONE;
        }

        void countWork(int k) {
            if (has(k)) {
                times[k]++;
            }
        }

        void putInWork(int k, int needer) {
            if (has(k)) {
                states[k] = IN_WORK;
                needers[k] = needer;
            }
        }

        void finish(int k, Value v) {
            if (has(k) && v != null) {
                states[k] = DONE;
                valueSorts[k] = v.sort;
                valueNumbers[k] = v.number;
                valueFirsts[k] = v.first;
                valueSeconds[k] = v.second;
            }
        }

        void copyValue(int k, Value to) {
            if (has(k) && to != null) {
                to.be(valueSorts[k], valueNumbers[k], valueFirsts[k], valueSeconds[k]);
            }
        }

        int valueSortOf(int k) {
            return has(k) ? valueSorts[k] : NONE;
        }

        int valueFirstOf(int k) {
            return has(k) ? valueFirsts[k] : NONE;
        }

        int valueSecondOf(int k) {
            return has(k) ? valueSeconds[k] : NONE;
        }

        void forgetReached() {
            reachedCount = 0;
        }

        /** Each thing is listed once a round, so the list never outgrows the things that are there. */
        void reach(int k, int round) {
            int at = reachedCount;
            if (k < 0 || k >= MOST_MADE || at < 0 || at >= MOST_THERE || marks[k] == round) {
                return;
            }
            marks[k] = round;
            reached[at] = k;
            reachedCount = at + 1;
        }

        int reachedAt(int i) {
            return i >= 0 && i < reachedCount && i < MOST_THERE ? reached[i] : NONE;
        }

        /** Keeps what the round reached, and tells how many are gone. */
        int keepReached(int round) {
            int kept = 0;
            int before = thereCount;
            for (int i = 0; i < before && i < MOST_THERE; i++) {
                int k = there[i];
                if (!has(k)) {
                    continue;
                }
                if (marks[k] == round) {
                    there[kept] = k;
                    kept++;
                } else {
                    states[k] = GONE;
                }
            }
            thereCount = kept;
            return before - kept;
        }
    }

    /** The row: first is a thing or a term, second the places of that term, number what an act has. */
    private static final class Row {
        private final int[] kinds = new int[MOST_ENTRIES];
        private final int[] firsts = new int[MOST_ENTRIES];
        private final int[] seconds = new int[MOST_ENTRIES];
        private final long[] numbers = new long[MOST_ENTRIES];
        private int length = 0;
        private int greatest = 0;

        void clear() {
            length = 0;
            greatest = 0;
        }

        boolean has(int k) {
            return k >= 0 && k < length && k < MOST_ENTRIES;
        }

        boolean isFull() {
            return length >= MOST_ENTRIES;
        }

        void add(int kind, int first, int second, long number) {
            int k = length;
            if (k < 0 || k >= MOST_ENTRIES) {
                return;
            }
            kinds[k] = kind;
            firsts[k] = first;
            seconds[k] = second;
            numbers[k] = number;
            length = k + 1;
            if (length > greatest) {
                greatest = length;
            }
        }

        void drop() {
            if (length > 0) {
                length--;
            }
        }

        int newest() {
            return length - 1;
        }

        int kindOf(int k) {
            return has(k) ? kinds[k] : NONE;
        }

        int firstOf(int k) {
            return has(k) ? firsts[k] : NONE;
        }

        int secondOf(int k) {
            return has(k) ? seconds[k] : NONE;
        }

        long numberOf(int k) {
            return has(k) ? numbers[k] : 0L;
        }

        int newestInWork() {
            for (int k = length - 1; k >= 0; k--) {
                if (k < MOST_ENTRIES && kinds[k] == IT_WAS_THAT) {
                    return firsts[k];
                }
            }
            return NONE;
        }
    }

    /** The run: what is at hand, the row, and the steps over them. */
    private static final class Walk {
        private final Terms terms = new Terms();
        private final Places places = new Places();
        private final Things things = new Things();
        private final Row row = new Row();
        private final Value value = new Value();
        private int outcome = NO_RUN;
        private boolean shares = false;
        private int hand = HAND_TERM;
        private int handTerm = NONE;
        private int handPlaces = NONE;
        private int handThing = NONE;
        private int steps = 0;
        private int needsOfDone = 0;
        private int needsOfWaiting = 0;
        private int ringNeeded = NONE;
        private int pace = 0;
        private int round = 0;

        void start(int term, boolean sharing) {
            places.clear();
            things.clear();
            row.clear();
            value.beNumber(0L);
            outcome = GOES_ON;
            shares = sharing;
            takeTerm(term, NONE);
            handThing = NONE;
            steps = 0;
            needsOfDone = 0;
            needsOfWaiting = 0;
            ringNeeded = NONE;
        }

        void turnTo(int thing) {
            hand = HAND_THING;
            handThing = thing;
            outcome = GOES_ON;
        }

        void step() {
            if (pace > 0 && steps % pace == 0) {
                sweepUnreached();
            }
            steps++;
            if (hand == HAND_TERM) {
                stepWithTerm();
            } else if (hand == HAND_VALUE) {
                stepWithValue();
            } else {
                need(handThing, false);
            }
            if (outcome == GOES_ON && hand == HAND_VALUE && row.length == 0) {
                outcome = RUN_DONE;
            }
        }

        int tally(int what) {
            switch (what) {
                case 0:
                    return steps;
                case 1:
                    return things.made;
                case 2:
                    return things.thereCount;
                case 3:
                    return row.length;
                case 4:
                    return row.greatest;
                case 5:
                    return needsOfDone;
                case 6:
                    return needsOfWaiting;
                default:
                    return places.made;
            }
        }

        int ringThing(int k) {
            if (outcome != ENDLESS || k < 0) {
                return NONE;
            }
            int seen = NONE;
            for (int i = 0; i < row.length; i++) {
                if (row.kindOf(i) == IT_WAS_THAT) {
                    int thing = row.firstOf(i);
                    if (seen != NONE || thing == ringNeeded) {
                        seen++;
                    }
                    if (seen == k) {
                        return thing;
                    }
                }
            }
            return NONE;
        }

        private void takeTerm(int term, int itsPlaces) {
            hand = HAND_TERM;
            handTerm = term;
            handPlaces = itsPlaces;
        }

        private void stepWithTerm() {
            switch (terms.sortOf(handTerm)) {
                case NUMBER:
                    value.beNumber(terms.numberOf(handTerm));
                    hand = HAND_VALUE;
                    break;
                case LAMBDA:
                    value.beLambda(handTerm, handPlaces);
                    hand = HAND_VALUE;
                    break;
                case VARIABLE:
                    need(places.thingAt(handPlaces, terms.firstOf(handTerm)), false);
                    break;
                case PAIR:
                    makePair(terms.firstOf(handTerm), terms.secondOf(handTerm));
                    break;
                case APPLY:
                    enterApply(terms.secondOf(handTerm));
                    break;
                case LET:
                    enterLet(terms.firstOf(handTerm), terms.secondOf(handTerm));
                    break;
                case ACT:
                    enter(THEN_B);
                    break;
                case CHOOSE:
                    enter(CHOOSE_ONE);
                    break;
                case FIRST:
                    enter(TAKE_FIRST);
                    break;
                case SECOND:
                    enter(TAKE_SECOND);
                    break;
                default:
                    // No closed term leads here: the run ends, so that no loop can come of it.
                    outcome = WRONG;
                    break;
            }
        }

        private int newThingsFor(int term) {
            return terms.sortOf(term) == VARIABLE ? 0 : 1;
        }

        private int thingFor(int term) {
            if (terms.sortOf(term) == VARIABLE) {
                return places.thingAt(handPlaces, terms.firstOf(term));
            }
            return things.add(term, handPlaces);
        }

        private void makePair(int a, int b) {
            if (!things.hasRoomFor(newThingsFor(a) + newThingsFor(b))) {
                outcome = ROOM;
                return;
            }
            int first = thingFor(a);
            int second = thingFor(b);
            value.bePair(first, second);
            hand = HAND_VALUE;
        }

        private void enterApply(int argument) {
            if (!things.hasRoomFor(newThingsFor(argument)) || row.isFull()) {
                outcome = ROOM;
                return;
            }
            row.add(GIVE_IT, thingFor(argument), NONE, 0L);
            handTerm = terms.firstOf(handTerm);
        }

        private void enterLet(int bound, int body) {
            if (!things.hasRoomFor(1) || places.isFull()) {
                outcome = ROOM;
                return;
            }
            // The place comes ahead of its thing, for the thing holds the place that names it.
            int inner = places.add(things.made, handPlaces);
            things.add(bound, inner);
            takeTerm(body, inner);
        }

        private void enter(int kind) {
            if (row.isFull()) {
                outcome = ROOM;
                return;
            }
            row.add(kind, handTerm, handPlaces, 0L);
            handTerm = terms.firstOf(handTerm);
        }

        /** An asked need comes from the newest of the row, which goes unless the run ends. */
        private void need(int thing, boolean asked) {
            switch (things.stateOf(thing)) {
                case DONE:
                    if (asked) {
                        row.drop();
                    }
                    needsOfDone++;
                    things.copyValue(thing, value);
                    hand = HAND_VALUE;
                    break;
                case WAITING:
                    needWaiting(thing, asked);
                    break;
                case IN_WORK:
                    ringNeeded = thing;
                    outcome = ENDLESS;
                    break;
                default:
                    // What is gone was not reached and can't be needed: see stepWithTerm().
                    outcome = WRONG;
                    break;
            }
        }

        private void needWaiting(int thing, boolean asked) {
            if (shares && !asked && row.isFull()) {
                outcome = ROOM;
                return;
            }
            if (asked) {
                row.drop();
            }
            needsOfWaiting++;
            things.countWork(thing);
            if (shares) {
                things.putInWork(thing, row.newestInWork());
                row.add(IT_WAS_THAT, thing, NONE, 0L);
            }
            takeTerm(things.termOf(thing), things.placesOf(thing));
        }

        private void stepWithValue() {
            int newest = row.newest();
            switch (row.kindOf(newest)) {
                case IT_WAS_THAT:
                    things.finish(row.firstOf(newest), value);
                    row.drop();
                    break;
                case GIVE_IT:
                    giveThing(row.firstOf(newest));
                    break;
                case THEN_B:
                    thenSecond(row.firstOf(newest), row.secondOf(newest));
                    break;
                case ACT_WITH_IT:
                    actWith(terms.thirdOf(row.firstOf(newest)), row.numberOf(newest));
                    break;
                case CHOOSE_ONE:
                    chooseBranch(row.firstOf(newest), row.secondOf(newest));
                    break;
                case TAKE_FIRST:
                    takeOfPair(value.first);
                    break;
                case TAKE_SECOND:
                    takeOfPair(value.second);
                    break;
                default:
                    // An empty row ends the run ahead of this: see stepWithTerm().
                    outcome = WRONG;
                    break;
            }
        }

        private void giveThing(int thing) {
            if (value.sort != A_LAMBDA) {
                outcome = WRONG;
                return;
            }
            if (places.isFull()) {
                outcome = ROOM;
                return;
            }
            row.drop();
            takeTerm(terms.firstOf(value.first), places.add(thing, value.second));
        }

        private void thenSecond(int actTerm, int itsPlaces) {
            if (value.sort != A_NUMBER) {
                outcome = WRONG;
                return;
            }
            row.drop();
            row.add(ACT_WITH_IT, actTerm, NONE, value.number);
            takeTerm(terms.secondOf(actTerm), itsPlaces);
        }

        private void actWith(int act, long before) {
            if (value.sort != A_NUMBER || (act == QUOTIENT && value.number == 0L)) {
                outcome = WRONG;
                return;
            }
            row.drop();
            value.beNumber(resultOf(act, before, value.number));
        }

        private static long resultOf(int act, long x, long y) {
            switch (act) {
                case 0:
                    return x + y;
                case 1:
                    return x - y;
                case 2:
                    return x * y;
                case QUOTIENT:
                    return y == 0L ? 0L : x / y;
                case 4:
                    return x == y ? 1L : 0L;
                default:
                    return x < y ? 1L : 0L;
            }
        }

        private void chooseBranch(int chooseTerm, int itsPlaces) {
            if (value.sort != A_NUMBER) {
                outcome = WRONG;
                return;
            }
            row.drop();
            int branch = value.number == 0L ? terms.thirdOf(chooseTerm) : terms.secondOf(chooseTerm);
            takeTerm(branch, itsPlaces);
        }

        private void takeOfPair(int thing) {
            if (value.sort != A_PAIR) {
                outcome = WRONG;
                return;
            }
            need(thing, true);
        }

        int sweepUnreached() {
            // No round comes twice, not even in another run, so no mark is ever cleared.
            round++;
            things.forgetReached();
            reachFromHand();
            reachFromRow();
            for (int i = 0; i < MOST_THERE && i < things.reachedCount; i++) {
                reachFromThing(things.reachedAt(i));
            }
            return things.keepReached(round);
        }

        private void reachFromHand() {
            if (hand == HAND_TERM) {
                reachPlaces(handPlaces);
            } else if (hand == HAND_VALUE) {
                reachOfValue(value.sort, value.first, value.second);
            } else {
                things.reach(handThing, round);
            }
        }

        private void reachFromRow() {
            for (int k = 0; k < row.length; k++) {
                switch (row.kindOf(k)) {
                    case IT_WAS_THAT:
                    case GIVE_IT:
                        things.reach(row.firstOf(k), round);
                        break;
                    case THEN_B:
                    case CHOOSE_ONE:
                        reachPlaces(row.secondOf(k));
                        break;
                    default:
                        break;
                }
            }
        }

        private void reachFromThing(int k) {
            int state = things.stateOf(k);
            if (state == WAITING) {
                reachPlaces(things.placesOf(k));
            } else if (state == DONE) {
                reachOfValue(things.valueSortOf(k), things.valueFirstOf(k), things.valueSecondOf(k));
            }
        }

        private void reachOfValue(int valueSort, int first, int second) {
            if (valueSort == A_LAMBDA) {
                reachPlaces(second);
            } else if (valueSort == A_PAIR) {
                things.reach(first, round);
                things.reach(second, round);
            }
        }

        /** Ends at a place that is marked: what is outward of it was reached with it. */
        private void reachPlaces(int innermost) {
            int p = innermost;
            for (int i = 0; i < MOST_PLACES && places.mark(p, round); i++) {
                things.reach(places.heldBy(p), round);
                p = places.outerOf(p);
            }
        }
    }
}
