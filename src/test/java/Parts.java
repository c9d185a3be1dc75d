/** The sorts of the document by name, the terms that tests are built of, and what they all ask. */
class Parts {
    static final int LAMBDA = 0;
    static final int FIRST = 1;
    static final int SECOND = 2;
    static final int APPLY = 0;
    static final int LET = 1;
    static final int PAIR = 2;
    static final int ADD = 3;
    static final int TAKE = 4;
    static final int TIMES = 5;
    static final int QUOTIENT = 6;
    static final int EQUAL = 7;
    static final int LESS = 8;

    static final int GOES_ON = 1;
    static final int DONE = 2;
    static final int ENDLESS = 3;
    static final int WRONG = 4;
    static final int ROOM = 5;

    static final int BAD_LOW = Integer.MIN_VALUE;
    static final int BAD_HIGH = Integer.MAX_VALUE;

    static final Class<?> INDEX = IndexOutOfBoundsException.class;
    static final Class<?> STATE = IllegalStateException.class;
    static final Class<?> ARGUMENT = IllegalArgumentException.class;

    Parts() {
    }

    /** Makes an object anew each time, always the same one. */
    interface Scene {
        GraphWalker make();
    }

    interface Call {
        void on(GraphWalker x);
    }

    /** Makes a term on an object. */
    interface Term {
        int on(GraphWalker x);
    }

    static int endOf(GraphWalker x, int t) {
        x.begin(t, true);
        x.run(5000);
        return x.outcome();
    }

    static int sortOf(GraphWalker x, int t) {
        endOf(x, t);
        return x.sort();
    }

    static long worth(GraphWalker x, int t) {
        endOf(x, t);
        return x.value();
    }

    /** An object with a run of a term that has done so many steps. */
    static GraphWalker behind(Term term, boolean sharing, int steps) {
        GraphWalker x = new GraphWalker();
        x.begin(term.on(x), sharing);
        Check.due("steps done", x.run(steps), steps);
        return x;
    }

    /** An object whose run of a term, with sharing, has ended. */
    static GraphWalker ended(Term term) {
        GraphWalker x = new GraphWalker();
        x.begin(term.on(x), true);
        runOut(x);
        return x;
    }

    static GraphWalker endedWith(Term term, int pace) {
        GraphWalker x = new GraphWalker();
        x.every(pace);
        x.begin(term.on(x), true);
        runOut(x);
        return x;
    }

    static void runOut(GraphWalker x) {
        for (int i = 0; i < 5 && x.outcome() == GOES_ON; i++) {
            x.run(5000);
        }
    }

    static void runFor(GraphWalker x, int steps) {
        for (int left = steps; left > 0; left -= 5000) {
            x.run(Math.min(left, 5000));
        }
    }

    /** As many numbers as it takes for 200 terms. */
    static void fill(GraphWalker x) {
        for (int made = 0; made < 199;) {
            made = x.number(0);
        }
    }

    /** LET f = (n: CHOOSE n, f (n - 1), last) in f rounds: rounds + 2 things and as many places. */
    static int loop(GraphWalker x, long rounds, int last) {
        int n = x.variable(0);
        int f = x.variable(1);
        int less = x.two(TAKE, n, x.number(1));
        int body = x.choose(n, x.two(APPLY, f, less), last);
        return x.two(LET, x.one(LAMBDA, body), x.two(APPLY, n, x.number(rounds)));
    }

    /** Such a loop with a pair's second in each round: 2 rounds + 3 things, rounds + 2 places. */
    static int loopOfThings(GraphWalker x, long rounds, int last) {
        int n = x.variable(0);
        int f = x.variable(1);
        int one = x.number(1);
        int less = x.two(TAKE, n, one);
        int asked = x.one(FIRST, x.two(PAIR, n, one));
        int body = x.choose(asked, x.two(APPLY, f, less), last);
        return x.two(LET, x.one(LAMBDA, body), x.two(APPLY, n, x.number(rounds)));
    }

    /** Such a loop with a lambda around each call: rounds + 2 things, 2 rounds + 2 places. */
    static int loopOfPlaces(GraphWalker x, long rounds, int last) {
        int n = x.variable(0);
        int less = x.two(TAKE, x.variable(1), x.number(1));
        int call = x.one(LAMBDA, x.two(APPLY, x.variable(2), less));
        int body = x.choose(n, x.two(APPLY, call, n), last);
        return x.two(LET, x.one(LAMBDA, body), x.two(APPLY, n, x.number(rounds)));
    }

    /** Works inner under a row of that many entries "then b"; its variables 0 and 1 are done. */
    static int under(GraphWalker x, int entries, int inner) {
        int zero = x.number(0);
        int last = inner;
        for (int i = 0; i < entries - 200; i++) {
            last = x.two(ADD, last, zero);
        }
        int n = x.variable(0);
        int f = x.variable(1);
        int call = x.two(APPLY, f, x.two(TAKE, n, x.number(1)));
        int body = x.choose(n, x.two(ADD, call, zero), last);
        return x.two(LET, x.one(LAMBDA, body), x.two(APPLY, n, x.number(200)));
    }

    /** (v: v v) (v: v v): a place every third step, and one thing. */
    static int selfGiven(GraphWalker x) {
        int v0 = x.variable(0);
        int self = x.one(LAMBDA, x.two(APPLY, v0, v0));
        return x.two(APPLY, self, self);
    }

    /** (v: t) 6. */
    static int given(GraphWalker x, int t) {
        return x.two(APPLY, x.one(LAMBDA, t), x.number(6));
    }

    /** The call throws that, and all goes on as with a twin on which it was not called. */
    static void refused(String what, Class<?> due, Scene scene, Call call) {
        GraphWalker x = scene.make();
        GraphWalker twin = scene.make();
        String thrown = Seen.answer(() -> {
            call.on(x);
            return 0;
        });
        Check.same(what, thrown, "throws." + due.getSimpleName());
        Check.same(what + " changes nothing", Seen.all(x), Seen.all(twin));
        Check.same("the next term", Seen.answer(() -> x.number(7)), Seen.answer(() -> twin.number(7)));
        for (int n = 1; n <= 5000; n += 4999) {
            int steps = n;
            Check.same("the steps that follow", Seen.answer(() -> x.run(steps)),
                Seen.answer(() -> twin.run(steps)));
            Check.same("what follows", Seen.all(x), Seen.all(twin));
        }
    }

    /** The last step of the run is counted and ends it so, but leaves all as it was. */
    static void endsAndDoesNothing(Scene scene, int outcome) {
        GraphWalker first = scene.make();
        int already = first.told(0);
        runOut(first);
        int steps = first.told(0);
        GraphWalker x = scene.make();
        runFor(x, steps - 1 - already);
        sweepIfPaced(x);
        Check.due("it goes on ahead of its last step", x.outcome(), GOES_ON);
        String before = Seen.rest(x);
        Check.due("the last step is done", x.run(1), 1);
        Check.due("it ends", x.outcome(), outcome);
        Check.due("the last step is counted", x.told(0), steps);
        Check.same("what the last step left", Seen.rest(x), before);
        Check.due("sort()", x.sort(), -1);
        Check.due("value()", x.value(), 0);
        Check.due("no step follows", x.run(5000), 0);
        GraphWalker stopped = scene.make();
        runFor(stopped, steps - 1 - already);
        sweepIfPaced(stopped);
        Check.due("what was at hand, and the row, hold", x.collect(), stopped.collect());
        Check.same("what they hold", Seen.rest(x), Seen.rest(stopped));
        Check.due("collecting lets no run go on", x.run(5000), 0);
        Check.due("it stays ended", x.outcome(), outcome);
    }

    /** Where the run collects ahead of each step, its last step finds all collected. */
    private static void sweepIfPaced(GraphWalker x) {
        int pace = x.every(0);
        x.every(pace);
        if (pace != 0) {
            x.collect();
        }
    }
}
