/** Promises 8 to 10: begin, run, into, and the steps that run does. */
final class RunCases extends Parts {
    /** LET v = 6 + 6 in v + v. */
    private static int shared(GraphWalker x) {
        int six = x.number(6);
        int v0 = x.variable(0);
        return x.two(LET, x.two(ADD, six, six), x.two(ADD, v0, v0));
    }

    /** Without sharing LET v = v in v needs its thing for ever. */
    private static int forEver(GraphWalker x) {
        int v0 = x.variable(0);
        return x.two(LET, v0, v0);
    }

    private static int pair(GraphWalker x) {
        int six = x.number(6);
        return x.two(PAIR, six, x.two(ADD, six, six));
    }

    private static GraphWalker noRun() {
        GraphWalker x = new GraphWalker();
        shared(x);
        return x;
    }

    private static GraphWalker goesOn() {
        return behind(RunCases::shared, true, 4);
    }

    private static GraphWalker donePair() {
        return behind(RunCases::pair, true, 1);
    }

    private static GraphWalker donePairAndVariable() {
        GraphWalker x = donePair();
        Check.due("the variable", x.variable(0), 3);
        return x;
    }

    static void promise08TermsThatThereAre() {
        refused("the next", INDEX, RunCases::goesOn, x -> x.begin(5, true));
        refused("begin(-1, true)", INDEX, RunCases::goesOn, x -> x.begin(-1, true));
        refused("begin(least, false)", INDEX, RunCases::goesOn, x -> x.begin(BAD_LOW, false));
        refused("begin(greatest, false)", INDEX, RunCases::goesOn, x -> x.begin(BAD_HIGH, false));
        refused("without a run", INDEX, RunCases::noRun, x -> x.begin(5, true));
        GraphWalker x = goesOn();
        x.begin(0, true);
        x.run(1);
        Check.due("the first term", x.value(), 6);
    }

    static void promise08The200thTerm() {
        GraphWalker x = new GraphWalker();
        for (int i = 0; i < 200; i++) {
            x.number(i);
        }
        x.begin(199, true);
        x.run(1);
        Check.due("its value", x.value(), 199);
        Check.index("begin(200, true)", () -> x.begin(200, true));
    }

    static void promise08ATermThatIsNotClosedIsRefused() {
        refused("a variable", STATE, RunCases::goesOn, x -> x.begin(1, true));
        refused("without sharing", STATE, RunCases::goesOn, x -> x.begin(1, false));
        refused("behind a done run", STATE, RunCases::donePairAndVariable, x -> x.begin(3, true));
        refused("without a run", STATE, RunCases::noRun, x -> x.begin(1, true));
    }

    static void promise08LacksOneIsTheFirstThatIsRefused() {
        GraphWalker x = new GraphWalker();
        int v1 = x.variable(1);
        int open = x.one(LAMBDA, v1);
        int closed = x.one(LAMBDA, open);
        Check.state("one is lacking", () -> x.begin(open, true));
        Check.due("no run comes of it", x.outcome(), 0);
        x.begin(closed, true);
        Check.due("none is lacking", x.outcome(), GOES_ON);
    }

    static void promise08TheRunBeforeIsGone() {
        GraphWalker x = ended(y -> y.two(LET, y.variable(0), shared(y)));
        Check.due("a run has ended", x.outcome(), DONE);
        Check.isTrue("with things", x.told(1) > 0);
        x.begin(1, true);
        Check.due("it goes on", x.outcome(), GOES_ON);
        Check.due("no sort", x.sort(), -1);
        Check.due("no value", x.value(), 0);
        for (int what = 0; what < 8; what++) {
            Check.due("told(" + what + ")", x.told(what), 0);
        }
        Check.index("thing(0)", () -> x.thing(0));
        Check.index("worked(0, 0)", () -> x.worked(0, 0));
        Check.index("entry(0)", () -> x.entry(0));
        Check.index("ring(0)", () -> x.ring(0));
    }

    static void promise08BehindEveryOutcome() {
        Term[] some = {RunCases::forEver, x -> x.two(APPLY, x.number(6), x.number(6)), Parts::selfGiven,
            RunCases::pair, RunCases::shared};
        int[] outcomes = {ENDLESS, WRONG, ROOM, DONE, DONE};
        for (int i = 0; i < some.length; i++) {
            GraphWalker x = ended(some[i]);
            Check.due("the run before", x.outcome(), outcomes[i]);
            int t = shared(x);
            x.begin(t, true);
            Check.due("steps", x.run(5000), 12);
            Check.due("value", x.value(), 24);
            Check.due("things", x.told(1), 1);
            Check.due("worked", x.worked(0, 0), 1);
            Check.due("needed by", x.worked(0, 1), -1);
            Check.index("ring(0)", () -> x.ring(0));
        }
    }

    static void promise08AFullRoomIsEmptiedByANewRun() {
        GraphWalker x = endedWith(y -> loop(y, 999, y.number(0)), 1);
        Check.due("room", x.outcome(), ROOM);
        Check.due("things", x.told(1), 1000);
        Check.due("places", x.told(7), 1000);
        x.every(0);
        int t = x.two(LET, x.number(5), x.variable(0));
        x.begin(t, true);
        x.run(99);
        Check.due("value", x.value(), 5);
        Check.due("things", x.told(1), 1);
        Check.due("there", x.told(2), 1);
        Check.due("places", x.told(7), 1);
    }

    static void promise08TheTermsStay() {
        GraphWalker x = goesOn();
        x.begin(4, false);
        x.begin(4, true);
        Check.due("the next term", x.number(1), 5);
        Check.due("steps", x.run(5000), 12);
    }

    static void promise08WithoutSharingNothingIsInWork() {
        GraphWalker x = behind(RunCases::shared, false, 3);
        Check.due("needed, and waiting", x.thing(0), 0);
        Check.due("then b alone", x.told(3), 1);
        Check.due("its term was at hand", x.worked(0, 0), 1);
        Check.due("steps", x.run(5000), 13);
        Check.due("worked twice", x.worked(0, 0), 2);
        Check.due("value", x.value(), 24);
        Check.due("still waiting", x.thing(0), 0);
        Check.due("needs of a waiting one", x.told(6), 2);
        Check.due("needs of a done one", x.told(5), 0);
    }

    static void promise09NoRunIsRefused() {
        refused("run(0)", STATE, RunCases::noRun, x -> x.run(0));
        refused("run(1)", STATE, RunCases::noRun, x -> x.run(1));
        refused("run(5000)", STATE, RunCases::noRun, x -> x.run(5000));
    }

    static void promise09IllegalStateIsTheFirst() {
        refused("run(-1)", STATE, RunCases::noRun, x -> x.run(-1));
        refused("run(5001)", STATE, RunCases::noRun, x -> x.run(5001));
    }

    static void promise09From0To5000() {
        Check.due("run(0)", goesOn().run(0), 0);
        Check.due("run(5000)", behind(RunCases::forEver, false, 0).run(5000), 5000);
        refused("run(-1)", ARGUMENT, RunCases::goesOn, x -> x.run(-1));
        refused("run(5001)", ARGUMENT, RunCases::goesOn, x -> x.run(5001));
        refused("run(least)", ARGUMENT, RunCases::goesOn, x -> x.run(BAD_LOW));
        refused("run(greatest)", ARGUMENT, RunCases::goesOn, x -> x.run(BAD_HIGH));
    }

    static void promise09OfAnEndedRun() {
        refused("run(-1)", ARGUMENT, RunCases::donePair, x -> x.run(-1));
        refused("run(5001)", ARGUMENT, RunCases::donePair, x -> x.run(5001));
        GraphWalker x = donePair();
        String before = Seen.all(x);
        Check.due("run(5000)", x.run(5000), 0);
        Check.due("run(0)", x.run(0), 0);
        Check.same("an ended run stays", Seen.all(x), before);
    }

    static void promise09Run0DoesNothing() {
        GraphWalker x = goesOn();
        String before = Seen.all(x);
        Check.due("run(0)", x.run(0), 0);
        Check.same("run(0) of one that goes on", Seen.all(x), before);
        x.begin(0, true);
        Check.due("run(0)", x.run(0), 0);
        Check.due("a number is not done yet", x.outcome(), GOES_ON);
    }

    static void promise09AsManyAsThereAre() {
        Check.due("all but one", behind(RunCases::shared, true, 0).run(11), 11);
        Check.due("all", behind(RunCases::shared, true, 0).run(12), 12);
        Check.due("one more", behind(RunCases::shared, true, 0).run(13), 12);
        Check.due("all but one: it goes on", behind(RunCases::shared, true, 11).outcome(), GOES_ON);
        Check.due("all: it is done", behind(RunCases::shared, true, 12).outcome(), DONE);
    }

    static void promise09MoreThan5000InSeveralCalls() {
        GraphWalker x = behind(RunCases::forEver, false, 5000);
        Check.due("the next 5000", x.run(5000), 5000);
        Check.due("one more", x.run(1), 1);
        Check.due("steps", x.told(0), 10001);
        Check.due("its needs", x.told(6), 10000);
        Check.due("worked", x.worked(0, 0), 10000);
    }

    static void promise09StopsAndGoesOnAnywhere() {
        for (int first = 0; first <= 12; first++) {
            GraphWalker x = behind(RunCases::shared, true, first);
            Check.due("the rest behind " + first, x.run(5000), 12 - first);
            Check.same("its end", Seen.all(x), Seen.all(behind(RunCases::shared, true, 12)));
        }
    }

    static void promise09TermsMayBeMadeWhileItGoesOn() {
        GraphWalker x = goesOn();
        fill(x);
        Check.due("the rest", x.run(5000), 8);
        Check.due("value", x.value(), 24);
    }

    static void promise09AThingOfAVariableIsThatOfItsPlace() {
        GraphWalker x = new GraphWalker();
        int v0 = x.variable(0);
        int six = x.number(6);
        int id = x.one(LAMBDA, v0);
        x.begin(x.two(LET, six, x.two(APPLY, id, v0)), true);
        x.run(99);
        Check.due("APPLY to a variable", x.told(1), 1);
        x.begin(x.two(LET, six, x.two(PAIR, v0, v0)), true);
        x.run(99);
        Check.due("PAIR of variables", x.told(1), 1);
        x.begin(x.two(LET, six, x.two(LET, x.variable(1), v0)), true);
        x.run(99);
        Check.due("LET a variable is a new one", x.told(1), 2);
        x.begin(x.two(APPLY, id, six), true);
        x.run(99);
        Check.due("APPLY to a number", x.told(1), 1);
    }

    static void promise09AThingOfAVariableFurtherOut() {
        // LET a = 6 in LET b = 7 in .. a ..: a is thing 0.
        GraphWalker x = new GraphWalker();
        int a = x.variable(1);
        int six = x.number(6);
        int seven = x.number(7);
        int id = x.one(LAMBDA, x.variable(0));
        int applied = x.two(LET, six, x.two(LET, seven, x.two(APPLY, id, a)));
        Check.due("APPLY", worth(x, applied), 6);
        Check.due("b waits", x.thing(1), 0);
        Check.due("PAIR", sortOf(x, x.two(LET, six, x.two(LET, seven, x.two(PAIR, a, a)))), 2);
        x.into(1);
        x.run(99);
        Check.due("its second", x.value(), 6);
        Check.due("b waits", x.thing(1), 0);
        Check.due("things", x.told(1), 2);
    }

    static void promise10NotDoneIsRefused() {
        refused("no run", STATE, RunCases::noRun, x -> x.into(0));
        refused("a new run", STATE, () -> behind(RunCases::pair, true, 0), x -> x.into(0));
        refused("one that goes on", STATE, RunCases::goesOn, x -> x.into(1));
        refused("endless", STATE, () -> ended(RunCases::forEver), x -> x.into(0));
        refused("room", STATE, () -> ended(Parts::selfGiven), x -> x.into(0));
    }

    static void promise10APairAtHandIsNotDoneYet() {
        Term first = x -> x.one(FIRST, pair(x));
        refused("first of a pair", STATE, () -> behind(first, true, 2), x -> x.into(0));
        Term wrong = x -> x.two(ADD, pair(x), x.number(1));
        refused("wrong with a pair", STATE, () -> ended(wrong), x -> x.into(0));
    }

    static void promise10NoPairIsRefused() {
        refused("a number", STATE, () -> ended(RunCases::shared), x -> x.into(0));
        refused("a number", STATE, () -> ended(RunCases::shared), x -> x.into(1));
        refused("a lambda", STATE, () -> ended(x -> x.one(LAMBDA, x.number(0))), x -> x.into(0));
        refused("a lambda", STATE, () -> ended(x -> x.one(LAMBDA, x.number(0))), x -> x.into(1));
    }

    static void promise10Which0Or1() {
        refused("into(-1)", ARGUMENT, RunCases::donePair, x -> x.into(-1));
        refused("into(2)", ARGUMENT, RunCases::donePair, x -> x.into(2));
        refused("into(least)", ARGUMENT, RunCases::donePair, x -> x.into(BAD_LOW));
        refused("into(greatest)", ARGUMENT, RunCases::donePair, x -> x.into(BAD_HIGH));
        GraphWalker x = donePair();
        x.into(0);
        x.run(99);
        Check.due("its first", x.value(), 6);
        GraphWalker y = donePair();
        y.into(1);
        y.run(99);
        Check.due("its second", y.value(), 12);
    }

    static void promise10IllegalStateIsTheFirst() {
        refused("no run", STATE, RunCases::noRun, x -> x.into(2));
        refused("one that goes on", STATE, RunCases::goesOn, x -> x.into(-1));
        refused("a number", STATE, () -> ended(RunCases::shared), x -> x.into(2));
    }

    static void promise10NeedIsTheFirstStep() {
        GraphWalker x = donePair();
        x.into(1);
        Check.due("it goes on", x.outcome(), GOES_ON);
        Check.due("its thing waits", x.thing(1), 0);
        Check.due("no step of its own", x.told(0), 1);
        Check.due("the row is empty", x.told(3), 0);
        x.run(1);
        Check.due("its thing is in work", x.thing(1), 1);
        Check.due("it was that", x.entry(0), 0);
        Check.due("a need of a waiting one", x.told(6), 1);
        Check.due("needed by none", x.worked(1, 1), -1);
        Check.due("the sum, it was that", x.run(99), 6);
        Check.due("steps since begin()", x.told(0), 8);
    }

    static void promise10TheThingsStay() {
        GraphWalker x = donePair();
        x.into(1);
        Check.due("made", x.told(1), 2);
        Check.due("there", x.told(2), 2);
        x.run(99);
        Check.due("the first", x.thing(0), 0);
        Check.due("the second", x.thing(1), 2);
    }

    static void promise10OnceAlone() {
        refused("into() behind into()", STATE, () -> {
            GraphWalker x = donePair();
            x.into(1);
            return x;
        }, x -> x.into(1));
    }

    static void promise10ADoneThingTakesOneStep() {
        // LET p = PAIR p, 6 in p: its first is itself, which is done.
        GraphWalker x = ended(y -> {
            int v0 = y.variable(0);
            return y.two(LET, y.two(PAIR, v0, y.number(6)), v0);
        });
        for (int i = 1; i <= 3; i++) {
            x.into(0);
            Check.due("its need alone", x.run(99), 1);
            Check.due("a pair", x.sort(), 2);
            Check.due("needs of a done one", x.told(5), i);
        }
    }

    static void promise10WithoutSharingItStaysSo() {
        GraphWalker x = behind(RunCases::pair, false, 1);
        x.into(1);
        Check.due("the need and the sum", x.run(99), 6);
        Check.due("value", x.value(), 12);
        Check.due("it waits", x.thing(1), 0);
        Check.due("no it was that", x.told(4), 1);
    }
}
