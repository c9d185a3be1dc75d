/** Promises 12 to 18: what is told of a run. */
final class AnswerCases extends Parts {
    private static final int[] FAR = {-1, BAD_LOW, BAD_HIGH};

    private static final Term A_PAIR = x -> x.two(PAIR, x.number(6), x.number(7));
    private static final Term A_LAMBDA = x -> x.one(LAMBDA, x.number(6));
    private static final Term SELF = x -> {
        int v0 = x.variable(0);
        return x.two(LET, v0, v0);
    };

    /** LET a = 6 + 6 in LET b = a * a in b + b. */
    private static int twoLets(GraphWalker x) {
        int six = x.number(6);
        int v0 = x.variable(0);
        int v1 = x.variable(1);
        int a = x.two(ADD, six, six);
        int b = x.two(TIMES, v1, v1);
        return x.two(LET, a, x.two(LET, b, x.two(ADD, v0, v0)));
    }

    private static GraphWalker onTheWay() {
        return behind(AnswerCases::twoLets, true, 7);
    }

    private static GraphWalker done() {
        return ended(AnswerCases::twoLets);
    }

    /** None of these runs is DONE, though some have a value at hand. */
    private static Scene[] notDone() {
        return new Scene[] {GraphWalker::new, () -> behind(A_PAIR, true, 0),
            () -> behind(x -> x.two(ADD, x.number(5), x.number(5)), true, 2),
            () -> behind(x -> x.two(ADD, x.number(5), x.number(5)), true, 4),
            () -> behind(x -> x.one(FIRST, A_PAIR.on(x)), true, 2),
            () -> behind(x -> given(x, x.variable(0)), true, 2),
            () -> ended(SELF),
            () -> ended(x -> x.two(APPLY, x.number(5), x.number(5))),
            () -> ended(x -> x.two(ADD, A_PAIR.on(x), x.number(5))),
            () -> ended(x -> x.two(ADD, A_LAMBDA.on(x), x.number(5))),
            () -> ended(Parts::selfGiven)};
    }

    static void promise12OfADoneRun() {
        Check.due("a number", ended(x -> x.number(0)).sort(), 0);
        Check.due("a lambda", ended(A_LAMBDA).sort(), 1);
        Check.due("a pair", ended(A_PAIR).sort(), 2);
    }

    static void promise12NoneElse() {
        Scene[] some = notDone();
        for (int i = 0; i < some.length; i++) {
            Check.due("sort() " + i, some[i].make().sort(), GraphWalker.NONE);
        }
    }

    static void promise12NoneBehindIntoUntilItIsDone() {
        GraphWalker x = ended(A_PAIR);
        x.into(0);
        Check.due("ahead of its need", x.sort(), GraphWalker.NONE);
        x.run(2);
        Check.due("6 is at hand", x.sort(), GraphWalker.NONE);
        x.run(1);
        Check.due("done", x.sort(), 0);
    }

    static void promise13TheNumber() {
        long[] some = {0, -1, 5, Long.MIN_VALUE, Long.MAX_VALUE};
        for (long v : some) {
            Check.due("value()", ended(x -> x.number(v)).value(), v);
        }
    }

    static void promise13Else0() {
        Check.due("a lambda", ended(A_LAMBDA).value(), 0);
        Check.due("a pair", ended(A_PAIR).value(), 0);
        Scene[] some = notDone();
        for (int i = 0; i < some.length; i++) {
            Check.due("value() " + i, some[i].make().value(), 0);
        }
    }

    static void promise13NothingOfAValueBefore() {
        // The number of the choice is no value of the lambda or the pair behind it.
        GraphWalker x = ended(y -> y.choose(y.number(9), A_LAMBDA.on(y), y.number(0)));
        Check.due("a lambda behind 9", x.value(), 0);
        GraphWalker z = ended(y -> y.choose(y.number(9), A_PAIR.on(y), y.number(0)));
        Check.due("a pair behind 9", z.value(), 0);
    }

    static void promise14From0To7() {
        for (int what = 0; what < 8; what++) {
            Check.isTrue("told(" + what + ")", done().told(what) >= 0);
        }
        for (int far : FAR) {
            refused("told(" + far + ")", ARGUMENT, AnswerCases::onTheWay, x -> x.told(far));
        }
        refused("told(8)", ARGUMENT, AnswerCases::onTheWay, x -> x.told(8));
        refused("told(8) of a done run", ARGUMENT, AnswerCases::done, x -> x.told(8));
    }

    static void promise14NoneWithoutARun() {
        for (int what = 0; what < 8; what++) {
            Check.due("told(" + what + ")", new GraphWalker().told(what), GraphWalker.NONE);
        }
        refused("told(-1)", ARGUMENT, GraphWalker::new, x -> x.told(-1));
        refused("told(8)", ARGUMENT, GraphWalker::new, x -> x.told(8));
    }

    static void promise14AllAre0AtFirst() {
        GraphWalker x = behind(AnswerCases::twoLets, true, 0);
        for (int what = 0; what < 8; what++) {
            Check.due("told(" + what + ")", x.told(what), 0);
        }
    }

    static void promise14StepsSinceBegin() {
        GraphWalker x = ended(A_PAIR);
        Check.due("the pair", x.told(0), 1);
        x.into(0);
        Check.due("into() is no step", x.told(0), 1);
        x.run(99);
        Check.due("they go on", x.told(0), 4);
        x.begin(0, true);
        Check.due("they begin anew", x.told(0), 0);
    }

    static void promise14StepsThatEndTheRunAreCounted() {
        Check.due("endless", ended(SELF).told(0), 3);
        Check.due("wrong", ended(x -> x.two(APPLY, x.number(5), x.number(5))).told(0), 3);
        Check.due("room", ended(Parts::selfGiven).told(0), 3005);
    }

    static void promise14ThingsMadeAndThere() {
        GraphWalker x = done();
        Check.due("made", x.told(1), 2);
        Check.due("there", x.told(2), 2);
        x.collect();
        Check.due("made, also those that are gone", x.told(1), 2);
        Check.due("there, without those", x.told(2), 0);
    }

    static void promise14TheRowAndItsGreatestLength() {
        GraphWalker x = behind(y -> y.two(ADD, y.choose(y.number(1), y.number(2), y.number(3)), y.number(4)),
            true, 0);
        int[] length = {1, 2, 2, 1, 1, 1, 1, 0};
        int[] greatest = {1, 2, 2, 2, 2, 2, 2, 2};
        for (int i = 0; i < length.length && x.outcome() == GOES_ON; i++) {
            x.run(1);
            Check.due("length behind " + (i + 1), x.told(3), length[i]);
            Check.due("greatest behind " + (i + 1), x.told(4), greatest[i]);
        }
        Check.due("done", x.value(), 6);
        x.begin(0, true);
        Check.due("of a new run", x.told(4), 0);
    }

    static void promise14TheGreatestRowStaysThroughInto() {
        GraphWalker x = ended(y -> y.choose(y.two(ADD, y.number(1), y.number(1)), A_PAIR.on(y), y.number(0)));
        Check.due("choose, then b", x.told(4), 2);
        x.into(0);
        Check.due("behind into()", x.told(4), 2);
        x.run(99);
        Check.due("it was that alone", x.told(4), 2);
    }

    static void promise14NeedsOfDoneAndWaitingThings() {
        GraphWalker x = done();
        Check.due("done: a again, b again", x.told(5), 2);
        Check.due("waiting: b, a", x.told(6), 2);
        GraphWalker y = behind(AnswerCases::twoLets, false, 0);
        y.run(99);
        Check.due("without sharing none is done", y.told(5), 0);
        Check.due("b twice, a four times", y.told(6), 6);
    }

    static void promise14NeedsByFirstAndInto() {
        GraphWalker x = ended(y -> y.one(FIRST, A_PAIR.on(y)));
        Check.due("by first", x.told(6), 1);
        // LET p = PAIR p, 6 in FIRST (FIRST p): p is needed once waiting, then done.
        GraphWalker z = ended(y -> {
            int v0 = y.variable(0);
            return y.two(LET, y.two(PAIR, v0, y.number(6)), y.one(FIRST, y.one(FIRST, v0)));
        });
        Check.due("by first, of a done one", z.told(5), 2);
        Check.due("of a waiting one", z.told(6), 1);
        z.into(1);
        z.run(1);
        Check.due("by into()", z.told(6), 2);
    }

    static void promise14NeedsThatEndAreNotCounted() {
        GraphWalker x = ended(SELF);
        Check.due("endless: done", x.told(5), 0);
        Check.due("endless: waiting", x.told(6), 1);
        GraphWalker y = ended(z -> under(z, 300, z.two(LET, z.number(6), z.variable(0))));
        Check.due("room", y.outcome(), ROOM);
        Check.due("201 numbers and f alone", y.told(6), 202);
    }

    static void promise14PlacesByGiveItAndByLet() {
        Check.due("by give it", ended(x -> given(x, x.number(1))).told(7), 1);
        Check.due("by LET", done().told(7), 2);
        Check.due("by neither", ended(x -> x.one(FIRST, A_PAIR.on(x))).told(7), 0);
        GraphWalker x = behind(y -> given(y, y.number(1)), true, 2);
        Check.due("not by APPLY", x.told(7), 0);
        x.run(1);
        Check.due("but by give it", x.told(7), 1);
        x.run(9);
        x.collect();
        Check.due("also behind collecting", x.told(7), 1);
    }

    static void promise15ThingsThatWereMade() {
        Check.due("the first", onTheWay().thing(0), 1);
        Check.due("the last", onTheWay().thing(1), 1);
        refused("the next", INDEX, AnswerCases::onTheWay, x -> x.thing(2));
        for (int far : FAR) {
            refused("thing(" + far + ")", INDEX, AnswerCases::onTheWay, x -> x.thing(far));
        }
        refused("of a new run", INDEX, () -> behind(AnswerCases::twoLets, true, 0), x -> x.thing(0));
    }

    static void promise15The1000th() {
        GraphWalker x = endedWith(y -> loop(y, 998, y.variable(0)), 1);
        Check.due("made", x.told(1), 1000);
        Check.due("the 1000th", x.thing(999), 2);
        Check.index("the 1001st", () -> x.thing(1000));
        Check.index("worked", () -> x.worked(1000, 0));
    }

    static void promise15FromWaitingToGone() {
        GraphWalker x = behind(y -> y.two(LET, y.number(6), y.two(ADD, y.variable(0), y.number(1))), true, 1);
        Check.due("waiting", x.thing(0), 0);
        x.run(2);
        Check.due("in work", x.thing(0), 1);
        x.run(1);
        Check.due("still in work", x.thing(0), 1);
        x.run(1);
        Check.due("done", x.thing(0), 2);
        x.run(9);
        Check.due("still done", x.thing(0), 2);
        x.collect();
        Check.due("gone", x.thing(0), 3);
    }

    static void promise15NumberedAsTheyWereMade() {
        // LET (0) holds a pair: its first (1) ahead of its second (2).
        GraphWalker x = new GraphWalker();
        int one = x.number(1);
        int two = x.number(2);
        int pair = x.two(PAIR, one, two);
        x.begin(x.two(LET, pair, x.one(SECOND, x.variable(0))), true);
        x.run(99);
        Check.due("the let", x.worked(0, 2), pair);
        Check.due("its first", x.worked(1, 2), one);
        Check.due("its second", x.worked(2, 2), two);
        Check.due("the first waits", x.thing(1), 0);
        Check.due("the second is done", x.thing(2), 2);
    }

    static void promise15TheNumbersOfGoneThingsAreNotUsedAgain() {
        GraphWalker x = new GraphWalker();
        int t = given(x, x.number(1));
        x.begin(x.two(ADD, t, t), true);
        x.run(5);
        Check.due("the first is gone", x.collect(), 1);
        x.run(99);
        Check.due("made", x.told(1), 2);
        Check.due("there", x.told(2), 1);
        Check.due("the first", x.thing(0), 3);
        Check.due("the second", x.thing(1), 0);
    }

    static void promise16ThingsThatWereMade() {
        for (int what = 0; what <= 2; what++) {
            int some = what;
            Check.isTrue("the last", onTheWay().worked(1, what) >= -1);
            refused("the next", INDEX, AnswerCases::onTheWay, x -> x.worked(2, some));
            for (int far : FAR) {
                refused("worked of " + far, INDEX, AnswerCases::onTheWay, x -> x.worked(far, some));
            }
        }
    }

    static void promise16From0To2() {
        refused("worked(0, 3)", ARGUMENT, AnswerCases::onTheWay, x -> x.worked(0, 3));
        for (int far : FAR) {
            refused("worked(0, " + far + ")", ARGUMENT, AnswerCases::onTheWay, x -> x.worked(0, far));
        }
    }

    static void promise16IndexOutOfBoundsIsTheFirst() {
        refused("worked(2, 3)", INDEX, AnswerCases::onTheWay, x -> x.worked(2, 3));
        refused("worked(-1, -1)", INDEX, AnswerCases::onTheWay, x -> x.worked(-1, -1));
        refused("without a run", INDEX, GraphWalker::new, x -> x.worked(0, 3));
    }

    static void promise16HowOftenInWork() {
        GraphWalker x = behind(AnswerCases::twoLets, true, 3);
        Check.due("b ahead of its need", x.worked(1, 0), 0);
        x.run(1);
        Check.due("b behind it", x.worked(1, 0), 1);
        runOut(x);
        Check.due("b", x.worked(1, 0), 1);
        Check.due("a", x.worked(0, 0), 1);
        GraphWalker y = behind(AnswerCases::twoLets, false, 0);
        runOut(y);
        Check.due("b without sharing", y.worked(1, 0), 2);
        Check.due("a without sharing", y.worked(0, 0), 4);
    }

    static void promise16NeededByNone() {
        GraphWalker x = behind(AnswerCases::twoLets, true, 3);
        Check.due("not needed yet", x.worked(1, 1), GraphWalker.NONE);
        x.run(1);
        Check.due("needed with then b alone in the row", x.worked(1, 1), GraphWalker.NONE);
        GraphWalker y = behind(AnswerCases::twoLets, false, 0);
        runOut(y);
        Check.due("without sharing", y.worked(0, 1), GraphWalker.NONE);
    }

    static void promise16NeededByTheLatestInWork() {
        // LET a = 6 in LET b = a + 1 in LET c = b + 1 in c.
        GraphWalker x = ended(y -> {
            int next = y.two(ADD, y.variable(1), y.number(1));
            return y.two(LET, y.number(6), y.two(LET, next, y.two(LET, next, y.variable(0))));
        });
        Check.due("value", x.value(), 8);
        Check.due("c", x.worked(2, 1), GraphWalker.NONE);
        Check.due("b by c", x.worked(1, 1), 2);
        Check.due("a by b, the newest of the row", x.worked(0, 1), 1);
    }

    static void promise16NeededFirst() {
        // LET a = 6 in LET b = a + 1 in a + b: the first need of a is by none, the second by b.
        GraphWalker x = ended(y -> {
            int b = y.two(ADD, y.variable(1), y.number(1));
            return y.two(LET, y.number(6), y.two(LET, b, y.two(ADD, y.variable(1), y.variable(0))));
        });
        Check.due("value", x.value(), 13);
        Check.due("a", x.worked(0, 1), GraphWalker.NONE);
        Check.due("b", x.worked(1, 1), GraphWalker.NONE);
    }

    static void promise16WhatIsNoLongerInWorkNeedsNothing() {
        // LET a = 6 in LET b = 7 in b + a: b is done when a is needed.
        GraphWalker x = ended(y -> y.two(LET, y.number(6),
            y.two(LET, y.number(7), y.two(ADD, y.variable(0), y.variable(1)))));
        Check.due("value", x.value(), 13);
        Check.due("a", x.worked(0, 1), GraphWalker.NONE);
    }

    static void promise16OfAGoneThing() {
        GraphWalker x = done();
        String before = x.worked(0, 0) + " " + x.worked(0, 1) + " " + x.worked(0, 2);
        Check.due("both are gone", x.collect(), 2);
        Check.same("worked", x.worked(0, 0) + " " + x.worked(0, 1) + " " + x.worked(0, 2), before);
        Check.due("needed by a gone one", x.worked(0, 1), 1);
        Check.argument("worked(0, 3)", () -> x.worked(0, 3));
    }

    static void promise16TheTermThatItIsOf() {
        GraphWalker x = new GraphWalker();
        int argument = x.two(ADD, x.number(1), x.number(2));
        int v0 = x.variable(0);
        int bound = x.variable(1);
        x.begin(x.two(APPLY, x.one(LAMBDA, x.two(LET, bound, v0)), argument), true);
        x.run(99);
        Check.due("of APPLY", x.worked(0, 2), argument);
        Check.due("of LET a variable", x.worked(1, 2), bound);
        Check.due("value", x.value(), 3);
    }

    /** The sum needs outer (0), outer a (1), a needs b (2), b needs c (3), c needs a again. */
    private static GraphWalker ring() {
        return ended(x -> {
            int six = x.number(6);
            int v0 = x.variable(0);
            int c = x.two(ADD, x.variable(2), six);
            int b = x.two(LET, c, x.two(ADD, six, v0));
            int a = x.two(LET, b, x.two(TIMES, six, v0));
            return x.two(LET, x.two(LET, a, v0), x.two(ADD, six, v0));
        });
    }

    static void promise17FromTheOneThatWasNeeded() {
        GraphWalker x = ring();
        Check.due("endless", x.outcome(), ENDLESS);
        Check.due("a", x.ring(0), 1);
        Check.due("b", x.ring(1), 2);
        Check.due("c", x.ring(2), 3);
    }

    static void promise17OneBeyondTheRing() {
        refused("ring(3)", INDEX, AnswerCases::ring, x -> x.ring(3));
        for (int far : FAR) {
            refused("ring(" + far + ")", INDEX, AnswerCases::ring, x -> x.ring(far));
        }
    }

    static void promise17ARingOfOne() {
        Check.due("ring(0)", ended(SELF).ring(0), 0);
        refused("ring(1)", INDEX, () -> ended(SELF), x -> x.ring(1));
    }

    static void promise17ALongRing() {
        // LET v = (LET f = (n: CHOOSE n, (LET w = f (n - 1) in w), v) in f 80) in v.
        GraphWalker x = ended(y -> {
            int v0 = y.variable(0);
            int v2 = y.variable(2);
            int call = y.two(APPLY, v2, y.two(TAKE, y.variable(1), y.number(1)));
            int body = y.choose(v0, y.two(LET, call, v0), v2);
            int looped = y.two(LET, y.one(LAMBDA, body), y.two(APPLY, v0, y.number(80)));
            return y.two(LET, looped, v0);
        });
        Check.due("endless", x.outcome(), ENDLESS);
        Check.due("the row is it was that alone", x.told(3), 81);
        Check.due("ring(0)", x.ring(0), 0);
        for (int k = 1; k <= 80; k++) {
            Check.due("needed by the one before", x.worked(x.ring(k), 1), x.ring(k - 1));
        }
        Check.index("ring(81)", () -> x.ring(81));
    }

    static void promise17OfAnotherRunIsRefused() {
        refused("no run", INDEX, GraphWalker::new, x -> x.ring(0));
        refused("it goes on", INDEX, () -> behind(SELF, true, 2), x -> x.ring(0));
        refused("done", INDEX, AnswerCases::done, x -> x.ring(0));
        refused("wrong", INDEX, () -> ended(x -> given(x, x.two(APPLY, x.number(1), x.variable(0)))),
            x -> x.ring(0));
        refused("wrong in work", INDEX, () -> ended(x -> x.two(LET, x.two(APPLY, x.number(1), x.number(1)),
            x.variable(0))), x -> x.ring(0));
        refused("room", INDEX, () -> ended(Parts::selfGiven), x -> x.ring(0));
    }

    static void promise17ANewRunHasNoRingOfTheOneBefore() {
        GraphWalker x = ring();
        x.begin(0, true);
        Check.index("of a new run", () -> x.ring(0));
        x.run(9);
        Check.index("of a done one", () -> x.ring(0));
    }

    static void promise17CollectingLeavesTheRing() {
        GraphWalker x = ring();
        Check.due("collect()", x.collect(), 0);
        Check.due("ring(0)", x.ring(0), 1);
        Check.due("ring(2)", x.ring(2), 3);
        Check.index("ring(3)", () -> x.ring(3));
    }

    /** The row is it was that, then b, act with it, choose, first, second, give it. */
    private static GraphWalker longRow() {
        return ended(x -> {
            int six = x.number(6);
            int v0 = x.variable(0);
            int t = x.one(FIRST, x.one(SECOND, x.two(APPLY, v0, six)));
            t = x.two(ADD, x.two(ADD, six, x.choose(t, six, six)), six);
            return x.two(LET, t, v0);
        });
    }

    static void promise18FromTheOldest() {
        GraphWalker x = longRow();
        int[] want = {0, 2, 3, 4, 5, 6, 1};
        Check.due("its length", x.told(3), want.length);
        for (int k = 0; k < want.length; k++) {
            Check.due("entry(" + k + ")", x.entry(k), want[k]);
        }
    }

    static void promise18OneBeyondTheRow() {
        refused("entry(7)", INDEX, AnswerCases::longRow, x -> x.entry(7));
        for (int far : FAR) {
            refused("entry(" + far + ")", INDEX, AnswerCases::longRow, x -> x.entry(far));
        }
    }

    static void promise18AnEmptyRow() {
        refused("no run", INDEX, GraphWalker::new, x -> x.entry(0));
        refused("a new run", INDEX, () -> behind(AnswerCases::twoLets, true, 0), x -> x.entry(0));
        refused("a done run", INDEX, AnswerCases::done, x -> x.entry(0));
        refused("a new run behind a row", INDEX, () -> {
            GraphWalker x = longRow();
            x.begin(0, true);
            return x;
        }, x -> x.entry(0));
    }

    static void promise18WhatIsDoneGoes() {
        GraphWalker x = behind(y -> y.two(ADD, y.number(1), y.number(2)), true, 1);
        Check.due("then b", x.entry(0), 2);
        x.run(2);
        Check.due("act with it", x.entry(0), 3);
        Check.index("entry(1)", () -> x.entry(1));
        x.run(2);
        Check.index("entry(0)", () -> x.entry(0));
    }

    static void promise18The300th() {
        GraphWalker x = ended(y -> under(y, 300, y.choose(y.number(1), y.number(1), y.number(1))));
        Check.due("its length", x.told(3), 300);
        Check.due("the 300th", x.entry(299), 2);
        Check.index("the 301st", () -> x.entry(300));
    }
}
