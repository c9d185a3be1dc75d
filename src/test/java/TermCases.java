/** Promises 1 to 7: terms. */
final class TermCases extends Parts {
    private static final int[] FAR = {-1, BAD_LOW, BAD_HIGH};

    /** Term 0 is 6, term 1 lacks one, term 2 is closed; a run of term 2 is under way. */
    private static GraphWalker some() {
        GraphWalker x = new GraphWalker();
        x.number(6);
        x.variable(0);
        x.two(LET, 0, x.two(ADD, 1, 1));
        x.begin(3, true);
        x.run(3);
        return x;
    }

    private static final int SOME_TERMS = 4;

    private static GraphWalker full() {
        GraphWalker x = some();
        fill(x);
        return x;
    }

    private static GraphWalker oneShort() {
        GraphWalker x = new GraphWalker();
        for (int i = 0; i < 199; i++) {
            x.number(i);
        }
        return x;
    }

    static void promise01NoTerms() {
        refused("lacks(0)", INDEX, GraphWalker::new, x -> x.lacks(0));
        refused("one(0, 0)", INDEX, GraphWalker::new, x -> x.one(0, 0));
        refused("two(0, 0, 0)", INDEX, GraphWalker::new, x -> x.two(0, 0, 0));
        refused("choose(0, 0, 0)", INDEX, GraphWalker::new, x -> x.choose(0, 0, 0));
        refused("begin(0, true)", INDEX, GraphWalker::new, x -> x.begin(0, true));
        Check.due("the first term", new GraphWalker().number(5), 0);
        Check.due("the first term", new GraphWalker().variable(60), 0);
    }

    static void promise01NoRun() {
        GraphWalker x = new GraphWalker();
        Check.due("outcome()", x.outcome(), 0);
        Check.due("sort()", x.sort(), GraphWalker.NONE);
        Check.due("value()", x.value(), 0);
        for (int what = 0; what < 8; what++) {
            Check.due("told(" + what + ")", x.told(what), GraphWalker.NONE);
        }
        refused("run(0)", STATE, GraphWalker::new, y -> y.run(0));
        refused("into(0)", STATE, GraphWalker::new, y -> y.into(0));
        refused("collect()", STATE, GraphWalker::new, y -> y.collect());
        refused("thing(0)", INDEX, GraphWalker::new, y -> y.thing(0));
        refused("worked(0, 0)", INDEX, GraphWalker::new, y -> y.worked(0, 0));
        refused("ring(0)", INDEX, GraphWalker::new, y -> y.ring(0));
        refused("entry(0)", INDEX, GraphWalker::new, y -> y.entry(0));
    }

    static void promise01NoneIsMinusOne() {
        Check.due("NONE", GraphWalker.NONE, -1);
    }

    static void promise01ObjectsShareNothing() {
        GraphWalker old = full();
        old.every(3);
        GraphWalker x = new GraphWalker();
        Check.due("outcome()", x.outcome(), 0);
        Check.index("lacks(0)", () -> x.lacks(0));
        Check.due("every(0)", x.every(0), 0);
        Check.due("number(1)", x.number(1), 0);
        Check.due("of the old one", old.outcome(), GOES_ON);
    }

    static void promise01GoodFor512Calls() {
        GraphWalker x = new GraphWalker();
        for (int i = 0; i < 200; i++) {
            x.number(i);
        }
        for (int i = 0; i < 310; i += 2) {
            x.begin(i % 200, true);
            x.run(1);
        }
        Check.due("the 511th", x.outcome(), DONE);
        Check.due("the 512th", x.value(), 108);
    }

    static void promise02LeastAndGreatestNumbers() {
        long[] some = {Long.MIN_VALUE, Long.MAX_VALUE, 0, -1, 1L << 32, -(1L << 31)};
        for (long v : some) {
            GraphWalker x = new GraphWalker();
            Check.due("a number", worth(x, x.number(v)), v);
            Check.due("its sort", x.sort(), 0);
        }
    }

    static void promise02The200thIsTheLast() {
        GraphWalker x = oneShort();
        Check.due("the 200th", x.number(4711), 199);
        Check.due("its lack", x.lacks(199), 0);
        Check.due("it can be run", worth(x, 199), 4711);
    }

    static void promise02The201stIsRefused() {
        refused("number(1)", STATE, TermCases::full, x -> x.number(1));
    }

    static void promise02TheSameNumberIsANewTerm() {
        GraphWalker x = new GraphWalker();
        Check.due("number(5)", x.number(5), 0);
        Check.due("number(5)", x.number(5), 1);
    }

    static void promise03From0To60() {
        GraphWalker x = new GraphWalker();
        Check.due("variable(0)", x.variable(0), 0);
        Check.due("variable(60)", x.variable(60), 1);
        refused("variable(-1)", ARGUMENT, TermCases::some, y -> y.variable(-1));
        refused("variable(61)", ARGUMENT, TermCases::some, y -> y.variable(61));
        refused("variable(least)", ARGUMENT, TermCases::some, y -> y.variable(BAD_LOW));
        refused("variable(greatest)", ARGUMENT, TermCases::some, y -> y.variable(BAD_HIGH));
    }

    static void promise03The200thIsTheLast() {
        GraphWalker x = oneShort();
        Check.due("the 200th", x.variable(60), 199);
        Check.due("its lack", x.lacks(199), 61);
        refused("variable(0)", STATE, TermCases::full, y -> y.variable(0));
    }

    static void promise03IllegalStateIsTheFirst() {
        refused("variable(61) as the 201st", STATE, TermCases::full, x -> x.variable(61));
        refused("variable(-1) as the 201st", STATE, TermCases::full, x -> x.variable(-1));
    }

    static void promise03CountsLambdasFromTheInnermost() {
        for (int i = 0; i <= 60; i += 20) {
            GraphWalker x = new GraphWalker();
            int t = x.variable(i);
            for (int k = 0; k <= 60; k++) {
                t = x.one(LAMBDA, t);
            }
            for (int k = 60; k >= 0; k--) {
                t = x.two(APPLY, t, x.number(1000 + k));
            }
            Check.due("variable(" + i + ") under 61 lambdas", worth(x, t), 1000 + i);
        }
    }

    static void promise03CountsLetsFromTheInnermost() {
        for (int i = 0; i <= 60; i += 20) {
            GraphWalker x = new GraphWalker();
            int t = x.variable(i);
            for (int k = 0; k <= 60; k++) {
                t = x.two(LET, x.number(1000 + k), t);
            }
            Check.due("variable(" + i + ") under 61 lets", worth(x, t), 1000 + i);
        }
    }

    static void promise04Sorts0To2() {
        GraphWalker x = new GraphWalker();
        int pair = x.two(PAIR, x.number(6), x.number(7));
        Check.due("LAMBDA", sortOf(x, x.one(0, pair)), 1);
        Check.due("FIRST", worth(x, x.one(1, pair)), 6);
        Check.due("SECOND", worth(x, x.one(2, pair)), 7);
        refused("one(-1, 0)", ARGUMENT, TermCases::some, y -> y.one(-1, 0));
        refused("one(3, 0)", ARGUMENT, TermCases::some, y -> y.one(3, 0));
        refused("one(least, 0)", ARGUMENT, TermCases::some, y -> y.one(BAD_LOW, 0));
        refused("one(greatest, 0)", ARGUMENT, TermCases::some, y -> y.one(BAD_HIGH, 0));
    }

    static void promise04OfEarlierTermsAlone() {
        for (int sort = 0; sort <= 2; sort++) {
            int some = sort;
            Check.due("of the first", some().one(sort, 0), SOME_TERMS);
            Check.due("of the last", some().one(sort, SOME_TERMS - 1), SOME_TERMS);
            refused("of itself", INDEX, TermCases::some, x -> x.one(some, SOME_TERMS));
            for (int far : FAR) {
                refused("one of " + far, INDEX, TermCases::some, x -> x.one(some, far));
            }
        }
    }

    static void promise04The200thIsTheLast() {
        GraphWalker x = oneShort();
        Check.due("the 200th", x.one(LAMBDA, 198), 199);
        for (int sort = 0; sort <= 2; sort++) {
            int some = sort;
            refused("one as the 201st", STATE, TermCases::full, y -> y.one(some, 199));
        }
    }

    static void promise04TheFirstException() {
        refused("term, sort", INDEX, TermCases::some, x -> x.one(3, SOME_TERMS));
        refused("term, 200, sort", INDEX, TermCases::full, x -> x.one(3, 200));
        refused("term, 200", INDEX, TermCases::full, x -> x.one(0, -1));
        refused("200, sort", STATE, TermCases::full, x -> x.one(-1, 0));
    }

    static void promise05Sorts0To8() {
        for (int sort = 0; sort <= 8; sort++) {
            Check.due("two(" + sort + ", 0, 0)", some().two(sort, 0, 0), SOME_TERMS);
        }
        refused("two(-1, 0, 0)", ARGUMENT, TermCases::some, x -> x.two(-1, 0, 0));
        refused("two(9, 0, 0)", ARGUMENT, TermCases::some, x -> x.two(9, 0, 0));
        refused("two(least, 0, 0)", ARGUMENT, TermCases::some, x -> x.two(BAD_LOW, 0, 0));
        refused("two(greatest, 0, 0)", ARGUMENT, TermCases::some, x -> x.two(BAD_HIGH, 0, 0));
    }

    static void promise05OfEarlierTermsAlone() {
        Check.due("of the last", some().two(PAIR, SOME_TERMS - 1, SOME_TERMS - 1), SOME_TERMS);
        for (int sort = 0; sort <= 8; sort++) {
            int some = sort;
            refused("a is itself", INDEX, TermCases::some, x -> x.two(some, SOME_TERMS, 0));
            refused("b is itself", INDEX, TermCases::some, x -> x.two(some, 0, SOME_TERMS));
        }
        for (int far : FAR) {
            refused("a is " + far, INDEX, TermCases::some, x -> x.two(0, far, 0));
            refused("b is " + far, INDEX, TermCases::some, x -> x.two(0, 0, far));
        }
    }

    static void promise05The200thIsTheLast() {
        Check.due("the 200th", oneShort().two(PAIR, 198, 0), 199);
        for (int sort = 0; sort <= 8; sort++) {
            int some = sort;
            refused("two as the 201st", STATE, TermCases::full, x -> x.two(some, 0, 199));
        }
    }

    static void promise05TheFirstException() {
        refused("a, sort", INDEX, TermCases::some, x -> x.two(9, -1, 0));
        refused("b, sort", INDEX, TermCases::some, x -> x.two(9, 0, SOME_TERMS));
        refused("a, 200, sort", INDEX, TermCases::full, x -> x.two(-1, 200, 0));
        refused("b, 200", INDEX, TermCases::full, x -> x.two(0, 0, 200));
        refused("200, sort", STATE, TermCases::full, x -> x.two(9, 0, 0));
    }

    static void promise05ALetMayNameItself() {
        GraphWalker x = new GraphWalker();
        int n = x.variable(0);
        int less = x.two(TAKE, n, x.number(1));
        int again = x.two(TIMES, n, x.two(APPLY, x.variable(1), less));
        int f = x.one(LAMBDA, x.choose(n, again, x.number(1)));
        Check.due("5!", worth(x, x.two(LET, f, x.two(APPLY, n, x.number(5)))), 120);
    }

    static void promise06OfEarlierTermsAlone() {
        Check.due("of the last", some().choose(3, 3, 3), SOME_TERMS);
        refused("c is itself", INDEX, TermCases::some, x -> x.choose(SOME_TERMS, 0, 0));
        refused("a is itself", INDEX, TermCases::some, x -> x.choose(0, SOME_TERMS, 0));
        refused("b is itself", INDEX, TermCases::some, x -> x.choose(0, 0, SOME_TERMS));
        for (int far : FAR) {
            refused("c is " + far, INDEX, TermCases::some, x -> x.choose(far, 0, 0));
            refused("a is " + far, INDEX, TermCases::some, x -> x.choose(0, far, 0));
            refused("b is " + far, INDEX, TermCases::some, x -> x.choose(0, 0, far));
        }
    }

    static void promise06The200thIsTheLast() {
        Check.due("the 200th", oneShort().choose(198, 0, 1), 199);
        refused("choose as the 201st", STATE, TermCases::full, x -> x.choose(0, 0, 199));
    }

    static void promise06TheFirstException() {
        refused("c, 200", INDEX, TermCases::full, x -> x.choose(200, 0, 0));
        refused("a, 200", INDEX, TermCases::full, x -> x.choose(0, -1, 0));
        refused("b, 200", INDEX, TermCases::full, x -> x.choose(0, 0, 200));
    }

    static void promise06Of0AloneIsB() {
        long[] others = {1, -1, 2, Long.MIN_VALUE, Long.MAX_VALUE, 1L << 32, 1L << 63};
        GraphWalker x = new GraphWalker();
        int a = x.number(10);
        int b = x.number(20);
        Check.due("of 0", worth(x, x.choose(x.number(0), a, b)), 20);
        for (long c : others) {
            Check.due("of " + c, worth(x, x.choose(x.number(c), a, b)), 10);
        }
    }

    static void promise06WhatIsNotChosenIsNotWorked() {
        GraphWalker x = new GraphWalker();
        int zero = x.number(0);
        int bad = x.two(QUOTIENT, zero, zero);
        Check.due("b is bad", worth(x, x.choose(x.number(3), x.number(8), bad)), 8);
        Check.due("a is bad", worth(x, x.choose(zero, bad, x.number(9))), 9);
    }

    static void promise07TermsThatThereAre() {
        Check.due("the first", some().lacks(0), 0);
        Check.due("the last", some().lacks(SOME_TERMS - 1), 0);
        refused("the next", INDEX, TermCases::some, x -> x.lacks(SOME_TERMS));
        refused("the 201st", INDEX, TermCases::full, x -> x.lacks(200));
        for (int far : FAR) {
            refused("lacks(" + far + ")", INDEX, TermCases::some, x -> x.lacks(far));
        }
    }

    static void promise07AVariableLacksOneMoreThanItsNumber() {
        for (int i = 0; i <= 60; i += 30) {
            GraphWalker x = new GraphWalker();
            Check.due("variable(" + i + ")", x.lacks(x.variable(i)), i + 1);
        }
    }

    static void promise07ALambdaAndALetTakeOneAway() {
        GraphWalker x = new GraphWalker();
        int zero = x.number(0);
        int v0 = x.variable(0);
        int v1 = x.variable(1);
        Check.due("LAMBDA of two", x.lacks(x.one(LAMBDA, v1)), 1);
        Check.due("LAMBDA of one", x.lacks(x.one(LAMBDA, v0)), 0);
        Check.due("LET two in none", x.lacks(x.two(LET, v1, zero)), 1);
        Check.due("LET none in two", x.lacks(x.two(LET, zero, v1)), 1);
        Check.due("LET one in none", x.lacks(x.two(LET, v0, zero)), 0);
        Check.due("LET none in one", x.lacks(x.two(LET, zero, v0)), 0);
    }

    static void promise07ClosedStaysClosed() {
        GraphWalker x = new GraphWalker();
        int zero = x.number(0);
        int inner = x.one(LAMBDA, zero);
        Check.due("LAMBDA", x.lacks(inner), 0);
        Check.due("LET", x.lacks(x.two(LET, zero, zero)), 0);
        // Were it less than 0 inside, it would hide what the other part lacks.
        Check.due("a lambda of a variable and closed ones", x.lacks(x.two(PAIR, inner, x.variable(0))), 1);
    }

    static void promise07AllOthersLackWhatTheirPartsLack() {
        GraphWalker x = new GraphWalker();
        int zero = x.number(0);
        int v4 = x.variable(4);
        int v2 = x.variable(2);
        Check.due("FIRST", x.lacks(x.one(FIRST, v4)), 5);
        Check.due("SECOND", x.lacks(x.one(SECOND, v4)), 5);
        for (int sort = 0; sort <= 8; sort++) {
            if (sort != LET) {
                Check.due("sort " + sort + " by a", x.lacks(x.two(sort, v4, v2)), 5);
                Check.due("sort " + sort + " by b", x.lacks(x.two(sort, v2, v4)), 5);
                Check.due("sort " + sort + " closed", x.lacks(x.two(sort, zero, zero)), 0);
            }
        }
        Check.due("CHOOSE by c", x.lacks(x.choose(v4, v2, zero)), 5);
        Check.due("CHOOSE by a", x.lacks(x.choose(zero, v4, v2)), 5);
        Check.due("CHOOSE by b", x.lacks(x.choose(v2, zero, v4)), 5);
    }

    static void promise07SixtyOneAroundVariable60CloseIt() {
        GraphWalker x = new GraphWalker();
        int t = x.variable(60);
        for (int k = 0; k < 60; k++) {
            t = k % 2 == 0 ? x.one(LAMBDA, t) : x.two(LET, t, t);
        }
        Check.due("60 around it", x.lacks(t), 1);
        Check.due("61 around it", x.lacks(x.one(LAMBDA, t)), 0);
    }
}
