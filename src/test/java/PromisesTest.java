/** Each promise of the document: ordinary inputs, its edges, wrong inputs. */
public final class PromisesTest extends Parts {
    public static void main(String[] args) {
        promise1NewObject();
        promise2Number();
        promise3Variable();
        promise4One();
        promise5Two();
        promise6Choose();
        termsAreAtMost200();
        promise7Lacks();
        promise8Begin();
        promise9Run();
        promise10Into();
        promise11Outcome();
        promise12Sort();
        promise13Value();
        promise14Told();
        promise15Thing();
        promise16Worked();
        promise17Ring();
        promise18Entry();
        promise19Collect();
        promise20Every();
        Check.end();
    }

    private static void promise1NewObject() {
        Check.part("promise 1");
        GraphWalker x = new GraphWalker();
        Check.due("NONE", GraphWalker.NONE, -1);
        Check.due("outcome()", x.outcome(), 0);
        Check.due("sort()", x.sort(), -1);
        Check.due("value()", x.value(), 0);
        Check.index("lacks(0)", () -> x.lacks(0));
        Check.index("begin(0, true)", () -> x.begin(0, true));
        Check.index("thing(0)", () -> x.thing(0));
        Check.index("worked(0, 0)", () -> x.worked(0, 0));
        Check.index("ring(0)", () -> x.ring(0));
        Check.index("entry(0)", () -> x.entry(0));
        Check.state("collect()", x::collect);
        Check.state("run(0)", () -> x.run(0));
        Check.state("into(0)", () -> x.into(0));
        for (int what = 0; what < 8; what++) {
            Check.due("told(" + what + ")", x.told(what), -1);
        }
        Check.due("every(0)", x.every(0), 0);
        Check.due("number(1)", x.number(1), 0);
    }

    private static void promise2Number() {
        Check.part("promise 2");
        GraphWalker x = new GraphWalker();
        long[] some = {0, 1, -1, Long.MAX_VALUE, Long.MIN_VALUE, 1L << 40};
        for (int i = 0; i < some.length; i++) {
            Check.due("number(" + some[i] + ")", x.number(some[i]), i);
            Check.due("its lack", x.lacks(i), 0);
            Check.due("its value", worth(x, i), some[i]);
            Check.due("its steps", x.told(0), 1);
        }
    }

    private static void promise3Variable() {
        Check.part("promise 3");
        GraphWalker x = new GraphWalker();
        Check.argument("variable(-1)", () -> x.variable(-1));
        Check.argument("variable(61)", () -> x.variable(61));
        Check.argument("variable(least)", () -> x.variable(BAD_LOW));
        Check.argument("variable(greatest)", () -> x.variable(BAD_HIGH));
        Check.due("variable(0)", x.variable(0), 0);
        Check.due("variable(60)", x.variable(60), 1);
        Check.due("the outermost", manyArguments(60), 1000);
        Check.due("the middle one", manyArguments(30), 1030);
        Check.due("the innermost", manyArguments(0), 1060);
    }

    /** A variable under 61 lambdas, which are given 1000, 1001, .. 1060. */
    private static long manyArguments(int i) {
        GraphWalker x = new GraphWalker();
        int t = x.variable(i);
        for (int k = 0; k <= 60; k++) {
            t = x.one(LAMBDA, t);
        }
        for (int k = 0; k <= 60; k++) {
            t = x.two(APPLY, t, x.number(1000 + k));
        }
        return worth(x, t);
    }

    private static void promise4One() {
        Check.part("promise 4");
        GraphWalker x = new GraphWalker();
        int six = x.number(6);
        int pair = x.two(PAIR, six, x.number(7));
        Check.due("lambda", x.one(LAMBDA, six), 3);
        Check.due("first", x.one(FIRST, pair), 4);
        Check.due("second", x.one(SECOND, pair), 5);
        Check.due("a lambda's sort", sortOf(x, 3), 1);
        Check.due("a first's value", worth(x, 4), 6);
        Check.due("a second's value", worth(x, 5), 7);
        Check.argument("one(-1, 0)", () -> x.one(-1, 0));
        Check.argument("one(3, 0)", () -> x.one(3, 0));
        Check.index("one(0, 6)", () -> x.one(0, 6));
        Check.index("one(0, -1)", () -> x.one(0, -1));
        Check.index("one(9, greatest)", () -> x.one(9, BAD_HIGH));
        Check.index("one(9, least)", () -> x.one(9, BAD_LOW));
        Check.due("the next term", x.number(0), 6);
    }

    private static void promise5Two() {
        Check.part("promise 5");
        acts(17, 5, new long[] {22, 12, 85, 3, 0, 0});
        acts(-17, 5, new long[] {-12, -22, -85, -3, 0, 1});
        acts(4, 4, new long[] {8, 0, 16, 1, 1, 0});
        acts(Long.MIN_VALUE, -1, new long[] {Long.MAX_VALUE, Long.MIN_VALUE + 1, Long.MIN_VALUE,
            Long.MIN_VALUE, 0, 1});
        acts(Long.MAX_VALUE, 2, new long[] {Long.MIN_VALUE + 1, Long.MAX_VALUE - 2, -2,
            Long.MAX_VALUE / 2, 0, 0});
        GraphWalker x = new GraphWalker();
        int six = x.number(6);
        int v0 = x.variable(0);
        int doubled = x.one(LAMBDA, x.two(ADD, v0, v0));
        Check.due("apply", worth(x, x.two(APPLY, doubled, six)), 12);
        Check.due("let", worth(x, x.two(LET, six, x.two(TIMES, v0, v0))), 36);
        Check.due("pair", sortOf(x, x.two(PAIR, six, six)), 2);
        Check.due("a wrong apply", endOf(x, x.two(APPLY, six, six)), 4);
        Check.due("a wrong first part", endOf(x, x.two(ADD, doubled, six)), 4);
        Check.due("a wrong second part", endOf(x, x.two(ADD, six, doubled)), 4);
        Check.due("a quotient by 0", endOf(x, x.two(QUOTIENT, six, x.number(0))), 4);
        Check.argument("two(-1, 0, 0)", () -> x.two(-1, 0, 0));
        Check.argument("two(9, 0, 0)", () -> x.two(9, 0, 0));
        Check.index("two(0, 99, 0)", () -> x.two(0, 99, 0));
        Check.index("two(0, 0, 99)", () -> x.two(0, 0, 99));
        Check.index("two(99, -1, 0)", () -> x.two(99, -1, 0));
        Check.index("two(99, 0, least)", () -> x.two(99, 0, BAD_LOW));
    }

    private static void acts(long a, long b, long[] results) {
        GraphWalker x = new GraphWalker();
        int first = x.number(a);
        int second = x.number(b);
        for (int o = 0; o < 6; o++) {
            int t = x.two(ADD + o, first, second);
            Check.due("act " + o + " on " + a + ", " + b, worth(x, t), results[o]);
            Check.due("its sort", x.sort(), 0);
        }
    }

    private static void promise6Choose() {
        Check.part("promise 6");
        GraphWalker x = new GraphWalker();
        int zero = x.number(0);
        int seven = x.number(7);
        int bad = x.two(QUOTIENT, seven, zero);
        Check.due("choose", x.choose(zero, bad, seven), 3);
        Check.due("of 0", worth(x, 3), 7);
        Check.due("of 7", worth(x, x.choose(seven, zero, bad)), 0);
        Check.due("its outcome", x.outcome(), 2);
        Check.due("of -1", worth(x, x.choose(x.number(-1), seven, bad)), 7);
        int high = x.number(1L << 32);
        Check.due("of 2^32", worth(x, x.choose(high, seven, zero)), 7);
        Check.due("of a lambda", endOf(x, x.choose(x.one(LAMBDA, zero), zero, zero)), 4);
        Check.index("choose(99, 0, 0)", () -> x.choose(99, 0, 0));
        Check.index("choose(0, -1, 0)", () -> x.choose(0, -1, 0));
        Check.index("choose(0, 0, 99)", () -> x.choose(0, 0, 99));
    }

    private static void termsAreAtMost200() {
        Check.part("promises 2 to 6, 200 terms");
        GraphWalker x = new GraphWalker();
        for (int i = 0; i < 199; i++) {
            x.number(i);
        }
        Check.due("the 200th", x.variable(3), 199);
        Check.state("number", () -> x.number(1));
        Check.state("variable", () -> x.variable(0));
        Check.state("a wrong variable", () -> x.variable(61));
        Check.state("one", () -> x.one(0, 0));
        Check.state("a wrong one", () -> x.one(3, 0));
        Check.index("one of no term", () -> x.one(3, 200));
        Check.state("two", () -> x.two(0, 0, 0));
        Check.state("a wrong two", () -> x.two(9, 0, 0));
        Check.index("two of no term", () -> x.two(9, 0, 200));
        Check.state("choose", () -> x.choose(0, 0, 0));
        Check.index("choose of no term", () -> x.choose(0, 200, 0));
        Check.due("the 200th stays", x.lacks(199), 4);
        Check.due("one can be run", worth(x, 198), 198);
    }

    private static void promise7Lacks() {
        Check.part("promise 7");
        GraphWalker x = new GraphWalker();
        int n = x.number(5);
        int v0 = x.variable(0);
        int v2 = x.variable(2);
        int v60 = x.variable(60);
        Check.due("a number", x.lacks(n), 0);
        Check.due("variable 0", x.lacks(v0), 1);
        Check.due("variable 60", x.lacks(v60), 61);
        Check.due("a lambda of 0", x.lacks(x.one(LAMBDA, v0)), 0);
        Check.due("a lambda of 2", x.lacks(x.one(LAMBDA, v2)), 2);
        Check.due("a lambda of a closed one", x.lacks(x.one(LAMBDA, n)), 0);
        Check.due("first of 2", x.lacks(x.one(FIRST, v2)), 3);
        Check.due("second of 2", x.lacks(x.one(SECOND, v2)), 3);
        Check.due("apply 0 to 2", x.lacks(x.two(APPLY, v0, v2)), 3);
        Check.due("apply 2 to 0", x.lacks(x.two(APPLY, v2, v0)), 3);
        Check.due("let 2 in 0", x.lacks(x.two(LET, v2, v0)), 2);
        Check.due("let 0 in 2", x.lacks(x.two(LET, v0, v2)), 2);
        Check.due("let 0 in 0", x.lacks(x.two(LET, v0, v0)), 0);
        Check.due("let of closed ones", x.lacks(x.two(LET, n, n)), 0);
        Check.due("pair 0, 2", x.lacks(x.two(PAIR, v0, v2)), 3);
        Check.due("act on 2, 0", x.lacks(x.two(LESS, v2, v0)), 3);
        Check.due("choose 2, 0, 0", x.lacks(x.choose(v2, v0, v0)), 3);
        Check.due("choose 0, 2, 0", x.lacks(x.choose(v0, v2, v0)), 3);
        Check.due("choose 0, 0, 2", x.lacks(x.choose(v0, v0, v2)), 3);
        Check.index("lacks(-1)", () -> x.lacks(-1));
        Check.index("lacks(99)", () -> x.lacks(99));
    }

    private static void promise8Begin() {
        Check.part("promise 8");
        GraphWalker x = new GraphWalker();
        int v0 = x.variable(0);
        int six = x.number(6);
        int sum = x.two(ADD, v0, v0);
        int shared = x.two(LET, x.two(ADD, six, six), sum);
        Check.state("a term that is not closed", () -> x.begin(v0, true));
        Check.due("no run comes of it", x.outcome(), 0);
        // LET, ACT, need, ACT .. (5 steps), it was that, then b, need, act with it.
        x.begin(shared, true);
        Check.due("steps with sharing", x.run(100), 12);
        Check.due("value with sharing", x.value(), 24);
        Check.index("begin(99, true)", () -> x.begin(99, true));
        Check.index("begin(-1, true)", () -> x.begin(-1, true));
        Check.state("a term that is not closed", () -> x.begin(sum, false));
        Check.due("the run stays", x.value(), 24);
        Check.due("its steps stay", x.told(0), 12);
        // LET, ACT, need, 5 steps, then b, need, 5 steps, act with it.
        x.begin(shared, false);
        Check.due("a new run goes on", x.outcome(), 1);
        for (int what = 0; what < 8; what++) {
            Check.due("told(" + what + ") of a new run", x.told(what), 0);
        }
        Check.index("its things", () -> x.thing(0));
        Check.due("steps without sharing", x.run(100), 16);
        Check.due("value without sharing", x.value(), 24);
        Check.due("the thing stays waiting", x.thing(0), 0);
    }

    private static void promise9Run() {
        Check.part("promise 9");
        GraphWalker x = new GraphWalker();
        int v0 = x.variable(0);
        int six = x.number(6);
        int sum = x.two(ADD, six, six);
        Check.state("a wrong run without a run", () -> x.run(-1));
        x.begin(sum, true);
        Check.argument("run(-1)", () -> x.run(-1));
        Check.argument("run(5001)", () -> x.run(5001));
        Check.argument("run(least)", () -> x.run(BAD_LOW));
        Check.argument("run(greatest)", () -> x.run(BAD_HIGH));
        Check.due("run(0)", x.run(0), 0);
        Check.due("no step was done", x.told(0), 0);
        Check.due("run(4)", x.run(4), 4);
        Check.due("it goes on", x.outcome(), 1);
        Check.due("run(4)", x.run(4), 1);
        Check.due("it is done", x.outcome(), 2);
        Check.due("run(5000)", x.run(5000), 0);
        Check.argument("run(5001) of a done one", () -> x.run(5001));
        // Without sharing a let that names itself alone goes on for ever.
        x.begin(x.two(LET, v0, v0), false);
        Check.due("run(5000)", x.run(5000), 5000);
        Check.due("run(5000)", x.run(5000), 5000);
        Check.due("it goes on", x.outcome(), 1);
        Check.due("its steps", x.told(0), 10000);
        Check.due("its row", x.told(4), 0);
    }

    private static void promise10Into() {
        Check.part("promise 10");
        GraphWalker x = new GraphWalker();
        int v0 = x.variable(0);
        int six = x.number(6);
        int sum = x.two(ADD, six, six);
        int pair = x.two(PAIR, sum, x.two(PAIR, six, six));
        Check.state("into(7) without a run", () -> x.into(7));
        x.begin(pair, true);
        Check.state("into(0) of one that goes on", () -> x.into(0));
        x.run(1);
        Check.argument("into(2)", () -> x.into(2));
        Check.argument("into(-1)", () -> x.into(-1));
        Check.due("the pair stays", x.sort(), 2);
        x.into(1);
        Check.due("it goes on", x.outcome(), 1);
        Check.due("no sort", x.sort(), -1);
        Check.due("the things stay", x.told(1), 2);
        Check.due("the steps go on", x.told(0), 1);
        Check.state("into(0) of one that goes on", () -> x.into(0));
        Check.due("need is the first step", x.run(1), 1);
        Check.due("the second is in work", x.thing(1), 1);
        Check.due("need, pair, it was that", x.run(9), 2);
        Check.due("a pair again", x.sort(), 2);
        Check.due("steps since begin()", x.told(0), 4);
        x.into(0);
        x.run(9);
        Check.due("the inner first", x.value(), 6);
        Check.state("into(0) of a number", () -> x.into(0));
        Check.state("into(2) of a number", () -> x.into(2));
        // Both parts are the one thing: the second time it is done, and its need is the only step.
        x.begin(x.two(LET, six, x.two(PAIR, v0, v0)), true);
        x.run(9);
        x.into(0);
        Check.due("its need, the number, it was that", x.run(9), 3);
        x.begin(x.two(LET, x.two(PAIR, v0, six), v0), true);
        x.run(9);
        x.into(0);
        Check.due("a pair that holds itself", x.run(9), 1);
        Check.due("is a pair", x.sort(), 2);
        Check.due("need of a done thing", x.told(5), 1);
        x.into(1);
        x.run(9);
        Check.due("its second", x.value(), 6);
        x.begin(x.two(PAIR, six, sum), false);
        x.run(9);
        x.into(1);
        Check.due("without sharing", x.run(9), 6);
        Check.due("its value", x.value(), 12);
        Check.due("the thing stays waiting", x.thing(1), 0);
    }

    private static void promise11Outcome() {
        Check.part("promise 11");
        GraphWalker x = new GraphWalker();
        int v0 = x.variable(0);
        int six = x.number(6);
        int self = x.one(LAMBDA, x.two(APPLY, v0, v0));
        Check.due("no run", x.outcome(), 0);
        x.begin(six, true);
        Check.due("it goes on", x.outcome(), 1);
        x.run(1);
        Check.due("done", x.outcome(), 2);
        Check.due("endless", endOf(x, x.two(LET, v0, v0)), 3);
        Check.due("wrong", endOf(x, x.one(FIRST, six)), 4);
        Check.due("wrong", endOf(x, x.one(SECOND, self)), 4);
        int ofLambda = x.one(SECOND, x.one(LAMBDA, v0));
        Check.due("wrong with places", endOf(x, x.two(APPLY, x.one(LAMBDA, ofLambda), six)), 4);
        Check.due("room", endOf(x, x.two(APPLY, self, self)), 5);
        Check.due("run(1) behind the end", x.run(1), 0);
        Check.due("it stays", x.outcome(), 5);
        placesEnd();
        thingsThereEnd();
        thingsMadeEnd();
        rowEnds();
        rowWithoutSharing();
        wrongIsAheadOfRoom();
    }

    /** The lambda that gives itself to itself makes a place every third step, and no thing. */
    private static void placesEnd() {
        GraphWalker x = new GraphWalker();
        int v0 = x.variable(0);
        int self = x.one(LAMBDA, x.two(APPLY, v0, v0));
        x.begin(x.two(APPLY, self, self), true);
        // The second place is made by step 8, the 1001st would be by step 8 + 3 * 999.
        Check.due("steps to the 1001st place", x.run(5000), 3005);
        Check.due("room", x.outcome(), 5);
        Check.due("places", x.told(7), 1000);
        Check.due("things", x.told(1), 1);
        Check.due("needs of a done thing", x.told(5), 999);
        Check.due("needs of a waiting thing", x.told(6), 1);
        Check.due("the row stays", x.told(3), 1);
        Check.due("give it stays", x.entry(0), 1);
        Check.due("collect()", x.collect(), 0);
    }

    private static void endOfLoop(String what, long rounds, int pace, int sort, int outcome, int made) {
        GraphWalker x = new GraphWalker();
        int v0 = x.variable(0);
        int six = x.number(6);
        int last = sort == 0 ? x.two(PAIR, six, six)
            : sort == 1 ? x.two(PAIR, v0, six)
            : sort == 2 ? x.two(PAIR, v0, v0)
            : sort == 3 ? x.two(LET, six, six)
            : sort == 4 ? x.two(APPLY, x.one(LAMBDA, six), six)
            : sort == 5 ? x.two(APPLY, x.one(LAMBDA, six), v0)
            : x.two(APPLY, x.one(LAMBDA, x.two(LET, six, six)), v0);
        x.every(pace);
        x.begin(loop(x, rounds, last), true);
        for (int i = 0; i < 4; i++) {
            x.run(5000);
        }
        Check.due(what + ", sort " + sort + ": outcome", x.outcome(), outcome);
        Check.due(what + ", sort " + sort + ": things made", x.told(1), made);
    }

    /** A loop of n rounds has made n + 2 things, and n + 2 places, where its last is at hand. */
    private static void thingsThereEnd() {
        endOfLoop("298 there", 296, 0, 0, 2, 300);
        endOfLoop("299 there", 297, 0, 0, 5, 299);
        endOfLoop("299 there", 297, 0, 1, 2, 300);
        endOfLoop("300 there", 298, 0, 1, 5, 300);
        endOfLoop("300 there", 298, 0, 2, 2, 300);
        endOfLoop("299 there", 297, 0, 3, 2, 300);
        endOfLoop("300 there", 298, 0, 3, 5, 300);
        endOfLoop("299 there", 297, 0, 4, 2, 300);
        endOfLoop("300 there", 298, 0, 4, 5, 300);
        endOfLoop("300 there", 298, 0, 5, 2, 300);
        endOfLoop("too many rounds", 299, 0, 2, 5, 300);
    }

    private static void thingsMadeEnd() {
        endOfLoop("998 made", 996, 1, 0, 2, 1000);
        endOfLoop("999 made", 997, 1, 0, 5, 999);
        endOfLoop("999 made", 997, 1, 1, 2, 1000);
        endOfLoop("1000 made", 998, 1, 1, 5, 1000);
        endOfLoop("1000 made", 998, 1, 2, 2, 1000);
        endOfLoop("999 made", 997, 1, 3, 2, 1000);
        endOfLoop("1000 made", 998, 1, 3, 5, 1000);
        endOfLoop("999 made", 997, 1, 4, 2, 1000);
        endOfLoop("1000 made", 998, 1, 4, 5, 1000);
        endOfLoop("1000 made, 1001st place", 998, 1, 5, 5, 1000);
        endOfLoop("a let with the 1000th place", 996, 1, 6, 2, 999);
        endOfLoop("a let with the 1001st place", 997, 1, 6, 5, 999);
        endOfLoop("too many rounds", 999, 1, 2, 5, 1000);
    }

    private static void rowEnds() {
        for (int kind = 0; kind < 8; kind++) {
            rowEnd(kind, 299, 2);
            rowEnd(kind, 300, kind == 0 || kind == 1 ? 2 : 5);
        }
    }

    private static void rowEnd(int kind, int entries, int outcome) {
        GraphWalker x = new GraphWalker();
        int v0 = x.variable(0);
        int six = x.number(6);
        int pair = x.two(PAIR, six, six);
        // Variable 0 is done here; within the let it is a new thing that waits.
        int inner = kind == 0 ? six
            : kind == 1 ? v0
            : kind == 2 ? x.two(ADD, six, six)
            : kind == 3 ? x.choose(six, six, six)
            : kind == 4 ? x.one(FIRST, pair)
            : kind == 5 ? x.one(SECOND, pair)
            : kind == 6 ? x.two(APPLY, x.one(LAMBDA, six), v0)
            : x.two(LET, six, v0);
        x.begin(under(x, entries, inner), true);
        x.run(5000);
        String what = "row of " + entries + ", kind " + kind;
        Check.due(what + ": outcome", x.outcome(), outcome);
        if (outcome == 5) {
            Check.due(what + ": the row stays", x.told(3), 300);
            Check.due(what + ": its newest", x.entry(299), 2);
            Check.index(what + ": entry(300)", () -> x.entry(300));
        }
        Check.due(what + ": its greatest length", x.told(4), kind < 2 ? entries : 300);
        if (kind == 7 && outcome == 5) {
            Check.due("the thing waits", x.thing(x.told(1) - 1), 0);
            Check.due("it was not worked", x.worked(x.told(1) - 1, 0), 0);
            Check.due("it was not needed", x.worked(x.told(1) - 1, 1), -1);
            Check.due("needs of waiting ones: 201 numbers and f", x.told(6), 202);
        }
    }

    /** LET f = (x: x under 150 entries) in f (f 6): without sharing need brings nothing to the row. */
    private static void rowWithoutSharing() {
        GraphWalker x = new GraphWalker();
        int v0 = x.variable(0);
        int six = x.number(6);
        int zero = x.number(0);
        int deep = v0;
        for (int i = 0; i < 150; i++) {
            deep = x.two(ADD, deep, zero);
        }
        int twice = x.two(APPLY, v0, x.two(APPLY, v0, six));
        int t = x.two(LET, x.one(LAMBDA, deep), twice);
        x.begin(t, false);
        x.run(5000);
        Check.due("without sharing", x.outcome(), 2);
        Check.due("its value", x.value(), 6);
        Check.due("its greatest length", x.told(4), 300);
        Check.due("with sharing", endOf(x, t), 5);
    }

    private static void wrongIsAheadOfRoom() {
        GraphWalker x = new GraphWalker();
        int v0 = x.variable(0);
        int six = x.number(6);
        // 1000 places are made where 6 is given something: no lambda, so no matter that there is no room.
        x.every(1);
        x.begin(loop(x, 998, x.two(APPLY, six, v0)), true);
        for (int i = 0; i < 4; i++) {
            x.run(5000);
        }
        Check.due("wrong with 1000 places", x.outcome(), 4);
        Check.due("places", x.told(7), 1000);
    }

    private static void promise12Sort() {
        Check.part("promise 12");
        GraphWalker x = new GraphWalker();
        int v0 = x.variable(0);
        int six = x.number(6);
        Check.due("a number", sortOf(x, six), 0);
        Check.due("a lambda", sortOf(x, x.one(LAMBDA, v0)), 1);
        Check.due("a pair", sortOf(x, x.two(PAIR, six, six)), 2);
        Check.due("endless", sortOf(x, x.two(LET, v0, v0)), -1);
        Check.due("wrong", sortOf(x, x.two(APPLY, six, six)), -1);
        x.begin(x.two(ADD, six, six), true);
        x.run(2);
        Check.due("a value at hand is none yet", x.sort(), -1);
    }

    private static void promise13Value() {
        Check.part("promise 13");
        GraphWalker x = new GraphWalker();
        int v0 = x.variable(0);
        int big = x.number(Long.MIN_VALUE + 5);
        Check.due("a number", worth(x, big), Long.MIN_VALUE + 5);
        Check.due("a lambda", worth(x, x.one(LAMBDA, v0)), 0);
        Check.due("a pair", worth(x, x.two(PAIR, big, big)), 0);
        Check.due("wrong", worth(x, x.two(APPLY, big, big)), 0);
        x.begin(x.two(ADD, big, big), true);
        x.run(2);
        Check.due("a value at hand is none yet", x.value(), 0);
        x.run(9);
        Check.due("modulo 2^64", x.value(), 10);
    }

    private static void promise14Told() {
        Check.part("promise 14");
        GraphWalker x = new GraphWalker();
        Check.argument("told(-1)", () -> x.told(-1));
        Check.argument("told(8)", () -> x.told(8));
        Check.argument("told(least)", () -> x.told(BAD_LOW));
        int v0 = x.variable(0);
        int six = x.number(6);
        int sum = x.two(ADD, six, six);
        int square = x.one(LAMBDA, x.two(TIMES, v0, v0));
        int t = x.two(PAIR, x.two(APPLY, square, sum), six);
        x.begin(x.one(FIRST, t), true);
        told(x, new int[] {0, 0, 0, 0, 0, 0, 0, 0});
        x.run(1);
        told(x, new int[] {1, 0, 0, 1, 1, 0, 0, 0});
        x.run(1);
        told(x, new int[] {2, 2, 2, 1, 1, 0, 0, 0});
        x.run(1);
        told(x, new int[] {3, 2, 2, 1, 1, 0, 1, 0});
        x.run(1);
        told(x, new int[] {4, 3, 3, 2, 2, 0, 1, 0});
        x.run(2);
        told(x, new int[] {6, 3, 3, 1, 2, 0, 1, 1});
        x.run(2);
        told(x, new int[] {8, 3, 3, 3, 3, 0, 2, 1});
        x.run(1);
        told(x, new int[] {9, 3, 3, 4, 4, 0, 2, 1});
        x.run(5);
        told(x, new int[] {14, 3, 3, 2, 4, 0, 2, 1});
        x.run(1);
        told(x, new int[] {15, 3, 3, 2, 4, 0, 2, 1});
        x.run(1);
        told(x, new int[] {16, 3, 3, 2, 4, 1, 2, 1});
        x.run(9);
        told(x, new int[] {18, 3, 3, 0, 4, 1, 2, 1});
        Check.due("value()", x.value(), 144);
        Check.due("collect()", x.collect(), 3);
        told(x, new int[] {18, 3, 0, 0, 4, 1, 2, 1});
        Check.argument("told(8)", () -> x.told(8));
        toldBehindInto();
    }

    private static void told(GraphWalker x, int[] want) {
        for (int what = 0; what < 8; what++) {
            Check.due("told(" + what + ") behind " + want[0] + " steps", x.told(what), want[what]);
        }
    }

    /** All that is told goes on from begin() through into(). */
    private static void toldBehindInto() {
        GraphWalker x = new GraphWalker();
        int v0 = x.variable(0);
        int six = x.number(6);
        int sum = x.two(ADD, v0, v0);
        x.begin(x.two(LET, six, x.choose(sum, x.two(PAIR, sum, v0), six)), true);
        x.run(99);
        told(x, new int[] {11, 2, 2, 0, 3, 1, 1, 1});
        x.into(0);
        told(x, new int[] {11, 2, 2, 0, 3, 1, 1, 1});
        x.run(1);
        told(x, new int[] {12, 2, 2, 1, 3, 1, 2, 1});
        x.run(99);
        told(x, new int[] {18, 2, 2, 0, 3, 3, 2, 1});
        Check.due("value()", x.value(), 12);
    }

    private static void promise15Thing() {
        Check.part("promise 15");
        GraphWalker x = new GraphWalker();
        int v0 = x.variable(0);
        int six = x.number(6);
        Check.index("thing(0) without a run", () -> x.thing(0));
        x.begin(x.two(LET, six, x.two(ADD, v0, v0)), true);
        Check.index("thing(0) ahead of it", () -> x.thing(0));
        x.run(1);
        Check.due("waiting", x.thing(0), 0);
        Check.index("thing(1)", () -> x.thing(1));
        Check.index("thing(-1)", () -> x.thing(-1));
        Check.index("thing(least)", () -> x.thing(BAD_LOW));
        Check.index("thing(greatest)", () -> x.thing(BAD_HIGH));
        x.run(2);
        Check.due("in work", x.thing(0), 1);
        x.run(1);
        Check.due("still in work", x.thing(0), 1);
        x.run(1);
        Check.due("done", x.thing(0), 2);
        x.run(9);
        x.collect();
        Check.due("gone", x.thing(0), 3);
        // A step that ends the run leaves its thing as it was.
        x.begin(x.two(LET, x.two(APPLY, six, six), v0), true);
        x.run(99);
        Check.due("wrong within it", x.thing(0), 1);
        Check.due("its argument", x.thing(1), 0);
        // A pair's first ahead of its second; a variable makes none.
        x.begin(x.two(LET, six, x.two(PAIR, x.two(ADD, v0, v0), x.two(PAIR, v0, v0))), true);
        x.run(99);
        Check.due("things", x.told(1), 3);
        x.into(1);
        x.run(99);
        Check.due("the first waits", x.thing(1), 0);
        Check.due("the second is done", x.thing(2), 2);
        Check.due("things", x.told(1), 3);
    }

    private static void promise16Worked() {
        Check.part("promise 16");
        GraphWalker x = new GraphWalker();
        int v0 = x.variable(0);
        int v1 = x.variable(1);
        int six = x.number(6);
        int low = x.two(ADD, six, six);
        int high = x.two(TIMES, v1, v1);
        // LET low = 6 + 6 in LET high = low * low in high + high.
        int t = x.two(LET, low, x.two(LET, high, x.two(ADD, v0, v0)));
        Check.index("worked(0, 9) without a run", () -> x.worked(0, 9));
        x.begin(t, true);
        x.run(2);
        Check.due("not needed yet", x.worked(1, 1), -1);
        Check.due("not worked yet", x.worked(1, 0), 0);
        Check.due("of its term", x.worked(1, 2), high);
        x.run(99);
        Check.due("value()", x.value(), 288);
        Check.due("low worked", x.worked(0, 0), 1);
        Check.due("high worked", x.worked(1, 0), 1);
        Check.due("low needed by", x.worked(0, 1), 1);
        Check.due("high needed by", x.worked(1, 1), -1);
        Check.due("low's term", x.worked(0, 2), low);
        x.collect();
        Check.due("of a gone one", x.worked(0, 0), 1);
        Check.due("of a gone one", x.worked(0, 1), 1);
        Check.due("of a gone one", x.worked(0, 2), low);
        Check.argument("worked(0, 3)", () -> x.worked(0, 3));
        Check.argument("worked(0, -1)", () -> x.worked(0, -1));
        Check.index("worked(2, 3)", () -> x.worked(2, 3));
        Check.index("worked(-1, 0)", () -> x.worked(-1, 0));
        x.begin(t, false);
        x.run(99);
        Check.due("value() without sharing", x.value(), 288);
        Check.due("low worked", x.worked(0, 0), 4);
        Check.due("high worked", x.worked(1, 0), 2);
        Check.due("low needed by", x.worked(0, 1), -1);
        // LET a = 6 in LET b = a + 6 in LET c = b + 6 in c: 2 needs 1, 1 needs 0.
        int next = x.two(ADD, v1, six);
        x.begin(x.two(LET, six, x.two(LET, next, x.two(LET, next, v0))), true);
        x.run(99);
        Check.due("value() of a row of three", x.value(), 18);
        Check.due("c needed by", x.worked(2, 1), -1);
        Check.due("b needed by", x.worked(1, 1), 2);
        Check.due("a needed by the latest in work", x.worked(0, 1), 1);
    }

    private static void promise17Ring() {
        Check.part("promise 17");
        GraphWalker x = new GraphWalker();
        int v0 = x.variable(0);
        int v2 = x.variable(2);
        int six = x.number(6);
        Check.index("ring(0) without a run", () -> x.ring(0));
        // The sum needs outer, outer needs a, a needs b, b needs c, c needs a.
        int c = x.two(ADD, v2, six);
        int b = x.two(LET, c, x.two(ADD, six, v0));
        int a = x.two(LET, b, x.two(TIMES, six, v0));
        int outer = x.two(LET, a, v0);
        int t = x.two(LET, outer, x.two(ADD, six, v0));
        x.begin(t, true);
        x.run(99);
        Check.due("endless", x.outcome(), 3);
        // 0 outer, 1 a, 2 b, 3 c: outer came to the row ahead of the ring.
        Check.due("outer is in work", x.thing(0), 1);
        Check.due("ring(0)", x.ring(0), 1);
        Check.due("ring(1)", x.ring(1), 2);
        Check.due("ring(2)", x.ring(2), 3);
        Check.index("ring(3)", () -> x.ring(3));
        Check.index("ring(-1)", () -> x.ring(-1));
        Check.index("ring(least)", () -> x.ring(BAD_LOW));
        Check.due("collect()", x.collect(), 0);
        Check.due("ring(2) behind it", x.ring(2), 3);
        // By "first": the entry and the pair stay.
        int p = x.two(PAIR, x.one(FIRST, v0), six);
        x.begin(x.two(LET, p, x.one(FIRST, v0)), true);
        x.run(99);
        Check.due("endless by first", x.outcome(), 3);
        Check.due("ring(0)", x.ring(0), 1);
        Check.index("ring(1)", () -> x.ring(1));
        Check.due("it was that, first", x.told(3), 2);
        Check.due("it was that", x.entry(0), 0);
        Check.due("first stays", x.entry(1), 5);
        x.begin(x.two(LET, v0, v0), false);
        x.run(99);
        Check.index("ring(0) of one that goes on", () -> x.ring(0));
        x.begin(six, true);
        x.run(9);
        Check.index("ring(0) of a done one", () -> x.ring(0));
        x.begin(x.two(APPLY, six, six), true);
        x.run(9);
        Check.index("ring(0) of a wrong one", () -> x.ring(0));
    }

    private static void promise18Entry() {
        Check.part("promise 18");
        GraphWalker x = new GraphWalker();
        int v0 = x.variable(0);
        int six = x.number(6);
        int deep = x.two(APPLY, v0, six);
        deep = x.one(SECOND, deep);
        deep = x.one(FIRST, deep);
        deep = x.choose(deep, six, six);
        deep = x.two(ADD, six, deep);
        deep = x.two(ADD, deep, six);
        // The row grows by it was that, then b, act with it, choose, first, second, give it.
        x.begin(x.two(LET, deep, v0), true);
        Check.index("entry(0) of an empty row", () -> x.entry(0));
        x.run(99);
        Check.due("endless", x.outcome(), 3);
        int[] want = {0, 2, 3, 4, 5, 6, 1};
        Check.due("the row's length", x.told(3), want.length);
        for (int k = 0; k < want.length; k++) {
            Check.due("entry(" + k + ")", x.entry(k), want[k]);
        }
        Check.index("entry(7)", () -> x.entry(7));
        Check.index("entry(-1)", () -> x.entry(-1));
        Check.index("entry(least)", () -> x.entry(BAD_LOW));
        Check.index("entry(greatest)", () -> x.entry(BAD_HIGH));
        // Steps that end as wrong leave their entry.
        int lambda = x.one(LAMBDA, six);
        int[] wrongs = {x.two(APPLY, six, six), x.two(ADD, lambda, six), x.two(ADD, six, lambda),
            x.choose(lambda, six, six), x.one(FIRST, six), x.one(SECOND, lambda)};
        for (int i = 0; i < wrongs.length; i++) {
            Check.due("wrong " + i, endOf(x, wrongs[i]), 4);
            Check.due("its length", x.told(3), 1);
            Check.due("its entry", x.entry(0), i + 1);
        }
        x.begin(six, true);
        x.run(1);
        Check.index("entry(0) of a done one", () -> x.entry(0));
    }

    private static void promise19Collect() {
        Check.part("promise 19");
        GraphWalker x = new GraphWalker();
        int v0 = x.variable(0);
        int six = x.number(6);
        int five = x.number(5);
        Check.state("collect() without a run", x::collect);
        x.begin(x.two(APPLY, x.one(LAMBDA, five), six), true);
        Check.due("of a new run", x.collect(), 0);
        x.run(1);
        Check.due("the row holds it", x.collect(), 0);
        x.run(2);
        Check.due("places are held as far as they go", x.collect(), 0);
        x.run(1);
        Check.due("a number holds nothing", x.collect(), 1);
        Check.due("once alone", x.collect(), 0);
        Check.due("it is gone", x.thing(0), 3);
        Check.due("none is there", x.told(2), 0);
        Check.due("one was made", x.told(1), 1);
        Check.due("the value stays", x.value(), 5);
        x.begin(x.two(APPLY, x.one(LAMBDA, x.one(LAMBDA, five)), six), true);
        x.run(99);
        Check.due("a lambda holds its places", x.collect(), 0);
        x.begin(x.two(LET, x.two(PAIR, six, v0), v0), true);
        x.run(99);
        Check.due("a pair holds its things", x.collect(), 0);
        x.into(0);
        Check.due("its first waits, and holds the whole as a place", x.collect(), 0);
        x.run(1);
        Check.due("in work it holds the same by the term at hand", x.collect(), 0);
        x.run(1);
        Check.due("with a number at hand nothing holds the whole", x.collect(), 1);
        Check.due("the first", x.thing(1), 1);
        Check.due("the whole", x.thing(0), 3);
        x.begin(x.two(PAIR, six, five), true);
        x.run(1);
        Check.due("a pair holds both things", x.collect(), 0);
        x.into(1);
        Check.due("into() holds its thing alone", x.collect(), 1);
        Check.due("the first", x.thing(0), 3);
        Check.due("the second", x.thing(1), 0);
        x.run(9);
        Check.due("the second's value", x.value(), 5);
        collectByRow();
        collectThroughDone();
        collectInWork();
    }

    /** "then b" and "choose" hold places, "act with it", "first", "second" hold nothing. */
    private static void collectByRow() {
        GraphWalker x = new GraphWalker();
        int v0 = x.variable(0);
        int six = x.number(6);
        x.begin(x.two(APPLY, x.one(LAMBDA, x.two(ADD, six, six)), six), true);
        x.run(5);
        Check.due("then b", x.entry(0), 2);
        Check.due("it holds", x.collect(), 0);
        x.run(2);
        Check.due("act with it", x.entry(0), 3);
        Check.due("it holds nothing", x.collect(), 1);
        x.begin(x.two(APPLY, x.one(LAMBDA, x.choose(six, v0, six)), six), true);
        x.run(5);
        Check.due("choose", x.entry(0), 4);
        Check.due("it holds", x.collect(), 0);
        x.begin(x.two(APPLY, x.one(LAMBDA, x.one(FIRST, x.two(PAIR, six, v0))), six), true);
        x.run(99);
        Check.due("things of first", x.collect(), 2);
        for (int sort = FIRST; sort <= SECOND; sort++) {
            x.begin(x.two(APPLY, x.one(LAMBDA, x.one(sort, six)), six), true);
            x.run(99);
            Check.due("wrong", x.outcome(), 4);
            Check.due("first and second hold nothing", x.collect(), 1);
        }
    }

    /** LET g = (a: b: a) 7 in CHOOSE (g 0), (PAIR g, g), 6: 0 g, 1 the 0, 2 the 7. */
    private static void collectThroughDone() {
        GraphWalker x = new GraphWalker();
        int v0 = x.variable(0);
        int six = x.number(6);
        int g = x.two(APPLY, x.one(LAMBDA, x.one(LAMBDA, x.variable(1))), x.number(7));
        int given = x.two(APPLY, v0, x.number(0));
        x.begin(x.two(LET, g, x.choose(given, x.two(PAIR, v0, v0), six)), true);
        x.run(99);
        Check.due("a pair", x.sort(), 2);
        Check.due("a done lambda holds its places", x.collect(), 1);
        Check.due("g", x.thing(0), 2);
        Check.due("the 0", x.thing(1), 3);
        Check.due("the 7", x.thing(2), 2);
    }

    private static void collectInWork() {
        GraphWalker x = new GraphWalker();
        int v0 = x.variable(0);
        int v2 = x.variable(2);
        int five = x.number(5);
        int nine = x.number(9);
        int one = x.number(1);
        int id = x.one(LAMBDA, x.two(ADD, v0, one));
        int t = x.two(LET, x.two(APPLY, v2, five), v0);
        // LET id = (x: x + 1) in (a: LET t = id 5 in t) 9: 0 id, 1 a, 2 t, 3 the 5.
        x.begin(x.two(LET, id, x.two(APPLY, x.one(LAMBDA, t), nine)), true);
        x.run(13);
        Check.due("the 5 is at hand with its places", x.collect(), 0);
        x.run(1);
        Check.due("t is in work and holds nothing", x.collect(), 1);
        Check.due("a is gone", x.thing(1), 3);
        Check.due("t is in work", x.thing(2), 1);
        Check.due("three are there", x.told(2), 3);
        Check.due("it goes on", x.run(99), 5);
        Check.due("value()", x.value(), 6);
        Check.due("the rest goes", x.collect(), 3);
    }

    private static void promise20Every() {
        Check.part("promise 20");
        GraphWalker x = new GraphWalker();
        int six = x.number(6);
        int given = x.two(APPLY, x.one(LAMBDA, six), six);
        int sum = x.two(ADD, given, six);
        Check.due("at first", x.every(5000), 0);
        Check.argument("every(-1)", () -> x.every(-1));
        Check.argument("every(5001)", () -> x.every(5001));
        Check.argument("every(least)", () -> x.every(BAD_LOW));
        Check.due("what it was", x.every(1), 5000);
        Check.due("what it was", x.every(0), 1);
        // The thing is held until step 4 (from 0) is done; there are steps 0 .. 7.
        x.begin(sum, true);
        x.run(99);
        Check.due("never", x.told(2), 1);
        goneAhead(x, sum, 1, 5);
        goneAhead(x, sum, 2, 6);
        goneAhead(x, sum, 3, 6);
        goneAhead(x, sum, 4, 99);
        goneAhead(x, sum, 5, 5);
        goneAhead(x, sum, 7, 7);
        goneAhead(x, sum, 8, 99);
        // From now on: it counts for the run that is there as well, and without sharing.
        x.every(0);
        x.begin(sum, false);
        x.run(5);
        x.every(5);
        x.run(0);
        Check.due("no step, no collecting", x.told(2), 1);
        x.run(1);
        Check.due("ahead of the step", x.told(2), 0);
        x.every(1);
        x.begin(given, true);
        x.run(99);
        Check.due("no step behind the end", x.told(2), 1);
        x.run(99);
        Check.due("no step behind the end", x.told(2), 1);
        stepsGoOnThroughInto();
        collectingMakesRoom();
    }

    private static void goneAhead(GraphWalker x, int t, int pace, int step) {
        x.every(pace);
        x.begin(t, true);
        for (int done = 1; done <= 8; done++) {
            x.run(1);
            int there = done < 2 ? 0 : done > step ? 0 : 1;
            Check.due("every(" + pace + ") behind " + done + " steps", x.told(2), there);
        }
        Check.due("its value", x.value(), 12);
    }

    /** into() numbers the steps on: the pair is step 0, the need of its first step 1. */
    private static void stepsGoOnThroughInto() {
        GraphWalker x = new GraphWalker();
        int six = x.number(6);
        int pair = x.two(PAIR, six, six);
        x.every(2);
        x.begin(pair, true);
        x.run(9);
        x.into(0);
        x.run(1);
        Check.due("no collecting ahead of step 1", x.told(2), 2);
        x.run(1);
        Check.due("collecting ahead of step 2", x.told(2), 1);
    }

    private static void collectingMakesRoom() {
        for (int pace = 0; pace <= 400; pace += 200) {
            GraphWalker x = new GraphWalker();
            x.every(pace);
            x.begin(loop(x, 400, x.number(3)), true);
            x.run(5000);
            Check.due("every(" + pace + ")", x.outcome(), pace == 0 ? 5 : 2);
            Check.due("its value", x.value(), pace == 0 ? 0 : 3);
            Check.due("things made", x.told(1), pace == 0 ? 300 : 402);
        }
    }
}
