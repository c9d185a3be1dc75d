/** Promise 11: the runs that are DONE, ENDLESS or WRONG. */
final class EndCases extends Parts {
    static void promise11NoRunUntilOneBegins() {
        GraphWalker x = new GraphWalker();
        Check.due("a new object", x.outcome(), 0);
        int open = x.variable(0);
        Check.state("a begin() that is refused", () -> x.begin(open, true));
        Check.index("a begin() that is refused", () -> x.begin(9, true));
        Check.due("still no run", x.outcome(), 0);
    }

    static void promise11DoneIsNoStepOfItsOwn() {
        Term[] values = {x -> x.number(5), x -> x.one(LAMBDA, x.variable(0)),
            x -> x.two(PAIR, x.number(1), x.number(2))};
        for (int sort = 0; sort < values.length; sort++) {
            for (int sharing = 0; sharing < 2; sharing++) {
                GraphWalker x = behind(values[sort], sharing == 1, 0);
                Check.due("no step: it goes on", x.outcome(), GOES_ON);
                Check.due("one step", x.run(1), 1);
                Check.due("it is done at once", x.outcome(), DONE);
                Check.due("its sort", x.sort(), sort);
                Check.due("no other step", x.run(1), 0);
            }
        }
    }

    static void promise11DoneAtOnceBehindEachStepThatLeavesTheRowEmpty() {
        // The last step is "act with it"; "it was that"; the value of a branch; of a lambda's term.
        Term act = x -> x.two(ADD, x.number(1), x.number(2));
        Term was = x -> x.two(LET, x.number(3), x.variable(0));
        Term branch = x -> x.choose(x.number(0), x.number(1), x.number(3));
        Term body = x -> given(x, x.number(3));
        Term[] some = {act, was, branch, body};
        int[] steps = {5, 4, 4, 4};
        for (int i = 0; i < some.length; i++) {
            Check.due("one step ahead", behind(some[i], true, steps[i] - 1).outcome(), GOES_ON);
            GraphWalker x = behind(some[i], true, steps[i]);
            Check.due("it is done", x.outcome(), DONE);
            Check.due("its value", x.value(), 3);
            Check.due("its row", x.told(3), 0);
        }
    }

    static void promise11NeedOfADoneThingCanBeTheLastStep() {
        // LET v = 3 in CHOOSE v, v, 0.
        Term term = x -> {
            int v0 = x.variable(0);
            return x.two(LET, x.number(3), x.choose(v0, v0, x.number(0)));
        };
        Check.due("ahead of it", behind(term, true, 6).outcome(), GOES_ON);
        Check.due("behind it", behind(term, true, 7).outcome(), DONE);
    }

    static void promise11AValueWithARowIsNotDone() {
        GraphWalker x = behind(y -> y.two(ADD, y.number(1), y.number(2)), true, 2);
        Check.due("1 is at hand", x.outcome(), GOES_ON);
        Check.due("its row", x.told(3), 1);
    }

    static void promise11EndlessByAVariable() {
        Term self = x -> {
            int v0 = x.variable(0);
            return x.two(LET, v0, v0);
        };
        endsAndDoesNothing(() -> behind(self, true, 0), ENDLESS);
        GraphWalker x = behind(self, true, 2);
        Check.due("it is in work", x.thing(0), 1);
        Check.due("it goes on", x.outcome(), GOES_ON);
        Check.due("the need of it", x.run(99), 1);
        Check.due("endless", x.outcome(), ENDLESS);
        Check.due("its row", x.told(3), 1);
        Check.due("it stays in work", x.thing(0), 1);
        Check.due("worked once", x.worked(0, 0), 1);
        Check.due("no need of a done one", x.told(5), 0);
        Check.due("one need of a waiting one", x.told(6), 1);
    }

    static void promise11EndlessByFirstAndSecond() {
        for (int sort = FIRST; sort <= SECOND; sort++) {
            int taken = sort;
            // LET p = PAIR (taken p), (taken p) in taken p.
            Term term = x -> {
                int take = x.one(taken, x.variable(0));
                return x.two(LET, x.two(PAIR, take, take), take);
            };
            endsAndDoesNothing(() -> behind(term, true, 0), ENDLESS);
            GraphWalker x = ended(term);
            Check.due("its row", x.told(3), 2);
            Check.due("it was that", x.entry(0), 0);
            Check.due("first, second stay", x.entry(1), taken == FIRST ? 5 : 6);
            Check.due("the thing that was taken", x.ring(0), taken == FIRST ? 1 : 2);
        }
    }

    static void promise11EndlessByARingOfTwo() {
        // LET a = (LET b = a in b) in a.
        Term term = x -> {
            int v0 = x.variable(0);
            return x.two(LET, x.two(LET, x.variable(1), v0), v0);
        };
        endsAndDoesNothing(() -> behind(term, true, 0), ENDLESS);
    }

    static void promise11EndlessBehindInto() {
        // LET v = v + 1 in PAIR 6, v.
        Scene scene = () -> {
            GraphWalker x = ended(y -> {
                int v0 = y.variable(0);
                return y.two(LET, y.two(ADD, v0, y.number(1)), y.two(PAIR, y.number(6), v0));
            });
            x.into(1);
            return x;
        };
        endsAndDoesNothing(scene, ENDLESS);
    }

    static void promise11EndlessWithAFullRowIsNoRoom() {
        // LET v = (v under 299 entries) in v: "it was that" and 299 are in the row.
        Term term = x -> x.two(LET, under(x, 299, x.variable(2)), x.variable(0));
        endsAndDoesNothing(() -> behind(term, true, 0), ENDLESS);
        Check.due("its row", ended(term).told(3), 300);
    }

    static void promise11WithoutSharingNothingIsEndless() {
        GraphWalker x = behind(y -> {
            int v0 = y.variable(0);
            return y.two(LET, v0, v0);
        }, false, 5000);
        Check.due("it goes on", x.outcome(), GOES_ON);
    }

    static void promise11ADoneThingIsNoRing() {
        GraphWalker x = ended(y -> {
            int v0 = y.variable(0);
            return y.two(LET, y.number(4), y.two(TIMES, v0, v0));
        });
        Check.due("done", x.outcome(), DONE);
        Check.due("value", x.value(), 16);
    }

    private static final Term A_NUMBER = x -> x.number(6);
    private static final Term A_LAMBDA = x -> x.one(LAMBDA, x.number(6));
    private static final Term A_PAIR = x -> x.two(PAIR, x.number(6), x.number(6));

    /** Both within a lambda that was given 6, so that what is held can be seen. */
    private static void wrong(Term term, int entry) {
        Term within = x -> given(x, term.on(x));
        endsAndDoesNothing(() -> behind(within, true, 0), WRONG);
        endsAndDoesNothing(() -> behind(within, false, 0), WRONG);
        GraphWalker x = ended(within);
        Check.due("the entry stays", x.entry(x.told(3) - 1), entry);
    }

    static void promise11GiveItOfAnotherSortIsWrong() {
        wrong(x -> x.two(APPLY, A_NUMBER.on(x), x.number(1)), 1);
        wrong(x -> x.two(APPLY, A_PAIR.on(x), x.number(1)), 1);
    }

    static void promise11ThenBOfAnotherSortIsWrong() {
        for (int sort = ADD; sort <= LESS; sort++) {
            int act = sort;
            wrong(x -> x.two(act, A_LAMBDA.on(x), x.number(1)), 2);
            wrong(x -> x.two(act, A_PAIR.on(x), x.number(1)), 2);
        }
    }

    static void promise11ActWithItOfAnotherSortIsWrong() {
        for (int sort = ADD; sort <= LESS; sort++) {
            int act = sort;
            wrong(x -> x.two(act, x.number(1), A_LAMBDA.on(x)), 3);
            wrong(x -> x.two(act, x.number(1), A_PAIR.on(x)), 3);
        }
    }

    static void promise11ChooseOfAnotherSortIsWrong() {
        wrong(x -> x.choose(A_LAMBDA.on(x), x.number(1), x.number(1)), 4);
        wrong(x -> x.choose(A_PAIR.on(x), x.number(1), x.number(1)), 4);
    }

    static void promise11FirstOfAnotherSortIsWrong() {
        wrong(x -> x.one(FIRST, A_NUMBER.on(x)), 5);
        wrong(x -> x.one(FIRST, A_LAMBDA.on(x)), 5);
        // With places the lambda's own numbers look like things.
        wrong(x -> x.one(FIRST, x.one(LAMBDA, x.variable(1))), 5);
    }

    static void promise11SecondOfAnotherSortIsWrong() {
        wrong(x -> x.one(SECOND, A_NUMBER.on(x)), 6);
        wrong(x -> x.one(SECOND, A_LAMBDA.on(x)), 6);
        wrong(x -> x.one(SECOND, x.one(LAMBDA, x.variable(1))), 6);
    }

    static void promise11ItWasThatTakesAnySort() {
        Term[] values = {A_NUMBER, A_LAMBDA, A_PAIR};
        for (int sort = 0; sort < values.length; sort++) {
            Term value = values[sort];
            GraphWalker x = ended(y -> y.two(LET, value.on(y), y.variable(0)));
            Check.due("done", x.outcome(), DONE);
            Check.due("its sort", x.sort(), sort);
            Check.due("the thing", x.thing(0), 2);
        }
    }

    static void promise11WrongIsAheadOfRoom() {
        // 1000 places were made where 6 is given something: no lambda, and no room for a place.
        Term term = x -> loopOfPlaces(x, 499, x.two(APPLY, x.number(6), x.variable(0)));
        Scene scene = () -> {
            GraphWalker x = new GraphWalker();
            x.every(1);
            x.begin(term.on(x), true);
            return x;
        };
        endsAndDoesNothing(scene, WRONG);
        GraphWalker x = scene.make();
        runOut(x);
        Check.due("places", x.told(7), 1000);
    }

    static void promise11WrongWithinAThingLeavesItInWork() {
        GraphWalker x = ended(y -> y.two(LET, y.two(APPLY, y.number(6), y.number(6)), y.variable(0)));
        Check.due("wrong", x.outcome(), WRONG);
        Check.due("in work", x.thing(0), 1);
        Check.due("its argument waits", x.thing(1), 0);
    }

    static void promise11AnEndedRunStaysEnded() {
        Term[] some = {x -> x.number(5), x -> x.two(LET, x.variable(0), 0),
            x -> x.two(APPLY, x.number(6), 0), Parts::selfGiven};
        int[] outcomes = {DONE, ENDLESS, WRONG, ROOM};
        for (int i = 0; i < some.length; i++) {
            GraphWalker x = ended(some[i]);
            Check.due("outcome", x.outcome(), outcomes[i]);
            String before = Seen.all(x);
            Check.due("run(1)", x.run(1), 0);
            Check.due("run(5000)", x.run(5000), 0);
            Check.same("behind its end", Seen.all(x), before);
        }
    }
}
