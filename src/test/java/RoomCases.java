/** Promise 11: where a run has room, and the first step for which there is none. */
final class RoomCases extends Parts {
    /** In the last of a loop variable 0 is its n, which is done, and variable 1 its f. */
    private static final Term APPLY_NEW = x -> x.two(APPLY, x.one(LAMBDA, x.number(6)), x.number(6));
    private static final Term APPLY_VARIABLE =
        x -> x.two(APPLY, x.one(LAMBDA, x.number(6)), x.variable(0));
    private static final Term LET_NEW = x -> x.two(LET, x.number(6), x.number(6));
    private static final Term LET_VARIABLE = x -> x.two(LET, x.variable(1), x.number(6));
    private static final Term PAIR_TWO = x -> x.two(PAIR, x.number(6), x.number(6));
    private static final Term PAIR_FIRST = x -> x.two(PAIR, x.number(6), x.variable(0));
    private static final Term PAIR_SECOND = x -> x.two(PAIR, x.variable(0), x.number(6));
    private static final Term PAIR_NONE = x -> x.two(PAIR, x.variable(0), x.variable(0));

    /** A new run; with a pace of 1 no more things are there than are reached. */
    private static GraphWalker begun(Term term, int pace) {
        GraphWalker x = new GraphWalker();
        x.every(pace);
        x.begin(term.on(x), true);
        return x;
    }

    private static void done(Term term, int pace, int what, int due) {
        GraphWalker x = begun(term, pace);
        runOut(x);
        Check.due("outcome", x.outcome(), DONE);
        Check.due("told(" + what + ")", x.told(what), due);
    }

    private static GraphWalker noRoom(Term term, int pace) {
        endsAndDoesNothing(() -> begun(term, pace), ROOM);
        GraphWalker x = begun(term, pace);
        runOut(x);
        return x;
    }

    /** Where so many things are there, none of them gone, and as many places. */
    private static Term there(int things, Term last) {
        return x -> loop(x, things - 2, last.on(x));
    }

    private static void fitsAt300(Term last, int things) {
        done(there(300 - things, last), 0, 2, 300);
    }

    private static void failsAt301(Term last, int there) {
        GraphWalker x = noRoom(there(there, last), 0);
        Check.due("there", x.told(2), there);
        Check.due("made", x.told(1), there);
        Check.due("places", x.told(7), there);
        Check.due("the row", x.told(3), 0);
    }

    static void promise11The300thThingThereByApply() {
        fitsAt300(APPLY_NEW, 1);
    }

    static void promise11The301stThingThereByApply() {
        failsAt301(APPLY_NEW, 300);
    }

    static void promise11The300thThingThereByLet() {
        fitsAt300(LET_NEW, 1);
        fitsAt300(LET_VARIABLE, 1);
    }

    static void promise11The301stThingThereByLet() {
        failsAt301(LET_NEW, 300);
        failsAt301(LET_VARIABLE, 300);
    }

    static void promise11The300thThingThereByPair() {
        fitsAt300(PAIR_TWO, 2);
        fitsAt300(PAIR_FIRST, 1);
        fitsAt300(PAIR_SECOND, 1);
    }

    static void promise11The301stThingThereByPair() {
        failsAt301(PAIR_TWO, 300);
        failsAt301(PAIR_FIRST, 300);
        failsAt301(PAIR_SECOND, 300);
    }

    static void promise11APairOfTwoWithRoomForOneThingThere() {
        failsAt301(PAIR_TWO, 299);
    }

    static void promise11WithoutANewThing300ThereDoNotMatter() {
        fitsAt300(PAIR_NONE, 0);
        fitsAt300(APPLY_VARIABLE, 0);
        fitsAt300(x -> x.variable(0), 0);
    }

    static void promise11CollectingMakesRoomForThingsThere() {
        GraphWalker x = begun(there(300, APPLY_NEW), 0);
        GraphWalker twin = begun(there(300, APPLY_NEW), 0);
        runOut(twin);
        runFor(x, twin.told(0) - 1);
        Check.due("300 are there", x.told(2), 300);
        Check.isTrue("some are gone", x.collect() > 0);
        runOut(x);
        Check.due("done", x.outcome(), DONE);
        Check.due("made", x.told(1), 301);
    }

    static void promise11ThingsThatAreGoneAreNotThere() {
        GraphWalker x = begun(there(1000, x0 -> x0.number(6)), 1);
        runOut(x);
        Check.due("done", x.outcome(), DONE);
        Check.due("made", x.told(1), 1000);
        Check.isTrue("few are there", x.told(2) < 10);
    }

    /** Where so many things (an odd number) were made, with about half as many places. */
    private static Term made(int things, Term last) {
        return x -> loopOfThings(x, (things - 3) / 2, last.on(x));
    }

    private static Term behindAThing(Term last) {
        return x -> x.two(APPLY, x.one(LAMBDA, last.on(x)), x.number(6));
    }

    private static void failsAt1001(Term last, int made) {
        Term term = made % 2 == 1 ? made(made, last) : made(made - 1, behindAThing(last));
        GraphWalker x = noRoom(term, 1);
        Check.due("made", x.told(1), made);
        Check.isTrue("few are there", x.told(2) < 10);
        Check.isTrue("there is room for places", x.told(7) < 600);
        Check.due("the row", x.told(3), 0);
    }

    static void promise11The1000thThingMade() {
        done(made(999, APPLY_NEW), 1, 1, 1000);
        done(made(999, LET_NEW), 1, 1, 1000);
        done(made(999, LET_VARIABLE), 1, 1, 1000);
        done(made(999, PAIR_FIRST), 1, 1, 1000);
        done(made(999, PAIR_SECOND), 1, 1, 1000);
        done(made(997, behindAThing(PAIR_TWO)), 1, 1, 1000);
    }

    static void promise11The1001stThingMadeByApply() {
        failsAt1001(APPLY_NEW, 1000);
    }

    static void promise11The1001stThingMadeByLet() {
        failsAt1001(LET_NEW, 1000);
        failsAt1001(LET_VARIABLE, 1000);
    }

    static void promise11The1001stThingMadeByPair() {
        failsAt1001(PAIR_TWO, 1000);
        failsAt1001(PAIR_FIRST, 1000);
        failsAt1001(PAIR_SECOND, 1000);
    }

    static void promise11APairOfTwoWithRoomForOneThingMade() {
        failsAt1001(PAIR_TWO, 999);
    }

    static void promise11WithoutANewThing1000MadeDoNotMatter() {
        done(made(999, behindAThing(PAIR_NONE)), 1, 1, 1000);
        done(made(999, behindAThing(APPLY_VARIABLE)), 1, 1, 1000);
    }

    static void promise11CollectingMakesNoRoomForThingsMade() {
        GraphWalker x = begun(made(999, behindAThing(LET_NEW)), 1);
        GraphWalker twin = begun(made(999, behindAThing(LET_NEW)), 1);
        runOut(twin);
        runFor(x, twin.told(0) - 1);
        x.collect();
        x.run(5000);
        Check.due("room", x.outcome(), ROOM);
    }

    /** Where so many places (an even number) were made, with about half as many things. */
    private static Term places(int places, Term last) {
        return x -> loopOfPlaces(x, (places - 2) / 2, last.on(x));
    }

    private static Term behindAPlace(Term last) {
        return x -> x.two(LET, x.number(6), last.on(x));
    }

    static void promise11The1000thPlaceByGiveIt() {
        done(places(1000, x -> x.number(6)), 1, 7, 1000);
        done(places(998, behindAPlace(APPLY_VARIABLE)), 1, 7, 1000);
    }

    static void promise11The1001stPlaceByGiveIt() {
        GraphWalker x = noRoom(places(1000, APPLY_VARIABLE), 1);
        Check.due("places", x.told(7), 1000);
        Check.due("things", x.told(1), 501);
        Check.due("the row", x.told(3), 1);
        Check.due("give it stays", x.entry(0), 1);
        GraphWalker y = noRoom(places(1000, APPLY_NEW), 1);
        Check.due("places", y.told(7), 1000);
        Check.due("the thing of APPLY is made", y.told(1), 502);
    }

    static void promise11The1000thPlaceByLet() {
        done(places(998, behindAPlace(LET_NEW)), 1, 7, 1000);
        done(places(998, behindAPlace(LET_VARIABLE)), 1, 7, 1000);
    }

    static void promise11ALetWithRoomForItsThingAlone() {
        GraphWalker x = noRoom(places(1000, LET_NEW), 1);
        Check.due("places", x.told(7), 1000);
        Check.due("no thing is made", x.told(1), 501);
        GraphWalker y = noRoom(places(998, behindAPlace(behindAPlace(LET_NEW))), 1);
        Check.due("places", y.told(7), 1000);
        Check.due("no thing is made", y.told(1), 502);
    }

    static void promise11ALetWithRoomForItsPlaceAlone() {
        GraphWalker x = noRoom(there(300, LET_NEW), 0);
        Check.due("no place is made", x.told(7), 300);
        GraphWalker y = noRoom(made(999, behindAThing(LET_NEW)), 1);
        Check.due("no place is made", y.told(7), 501);
    }

    static void promise11CollectingMakesNoRoomForPlaces() {
        GraphWalker x = begun(Parts::selfGiven, 0);
        x.run(3004);
        Check.due("it goes on", x.outcome(), GOES_ON);
        Check.due("places", x.told(7), 1000);
        x.collect();
        x.run(5000);
        Check.due("room", x.outcome(), ROOM);
        Check.due("steps", x.told(0), 3005);
        Check.due("places", x.told(7), 1000);
    }

    private static Term row(int entries, Term inner) {
        return x -> under(x, entries, inner.on(x));
    }

    private static void rowOf300(Term inner) {
        done(row(299, inner), 0, 4, 300);
    }

    private static GraphWalker rowOf301(Term inner) {
        GraphWalker x = noRoom(row(300, inner), 0);
        Check.due("its length", x.told(3), 300);
        Check.due("its greatest length", x.told(4), 300);
        Check.due("its newest", x.entry(299), 2);
        Check.index("entry(300)", () -> x.entry(300));
        return x;
    }

    static void promise11ARowOf300ByGiveIt() {
        rowOf300(APPLY_NEW);
        rowOf300(APPLY_VARIABLE);
    }

    static void promise11ARowOf301ByGiveIt() {
        rowOf301(APPLY_VARIABLE);
        rowOf301(APPLY_NEW);
    }

    static void promise11AnApplyWithRoomForItsThingAlone() {
        GraphWalker x = rowOf301(APPLY_NEW);
        Check.due("the things of the loop alone", x.told(1), 202);
    }

    static void promise11AnApplyWithRoomInTheRowAlone() {
        GraphWalker x = noRoom(there(300, APPLY_NEW), 0);
        Check.due("nothing came to the row", x.told(3), 0);
    }

    static void promise11ARowOf300And301ByThenB() {
        rowOf300(x -> x.two(ADD, x.number(1), x.number(1)));
        rowOf301(x -> x.two(ADD, x.number(1), x.number(1)));
    }

    static void promise11ARowOf300And301ByChoose() {
        rowOf300(x -> x.choose(x.number(1), x.number(1), x.number(1)));
        rowOf301(x -> x.choose(x.number(1), x.number(1), x.number(1)));
    }

    static void promise11ARowOf300And301ByFirst() {
        rowOf300(x -> x.one(FIRST, PAIR_TWO.on(x)));
        rowOf301(x -> x.one(FIRST, PAIR_TWO.on(x)));
    }

    static void promise11ARowOf300And301BySecond() {
        rowOf300(x -> x.one(SECOND, PAIR_TWO.on(x)));
        rowOf301(x -> x.one(SECOND, PAIR_TWO.on(x)));
    }

    static void promise11ARowOf300And301ByItWasThat() {
        Term needed = x -> x.two(LET, x.number(6), x.variable(0));
        rowOf300(needed);
        GraphWalker x = rowOf301(needed);
        int last = x.told(1) - 1;
        Check.due("the thing waits", x.thing(last), 0);
        Check.due("it was not worked", x.worked(last, 0), 0);
        Check.due("needed by none", x.worked(last, 1), -1);
        Check.due("needs that did not end: 201 numbers and f", x.told(6), 202);
    }

    static void promise11NeedOfADoneThingWithAFullRow() {
        done(row(300, x -> x.variable(0)), 0, 4, 300);
    }

    static void promise11AValueWithAFullRow() {
        done(row(300, x -> x.number(6)), 0, 4, 300);
    }

    /** With a row of 300 "then b" goes and "act with it" comes, "first" goes and "it was that" comes. */
    static void promise11WhatGoesMakesRoomInTheRow() {
        done(row(299, x -> x.two(ADD, x.number(1), x.number(1))), 0, 4, 300);
        done(row(299, x -> x.one(FIRST, PAIR_TWO.on(x))), 0, 4, 300);
        done(row(299, x -> x.one(SECOND, PAIR_TWO.on(x))), 0, 4, 300);
    }

    static void promise11WithoutSharingNeedBringsNothingToAFullRow() {
        // (v: v under 150 entries) twice: the inner one is worked within the outer one's row.
        Term term = x -> {
            int v0 = x.variable(0);
            int zero = x.number(0);
            int deep = v0;
            for (int i = 0; i < 150; i++) {
                deep = x.two(ADD, deep, zero);
            }
            int twice = x.two(APPLY, v0, x.two(APPLY, v0, x.number(6)));
            return x.two(LET, x.one(LAMBDA, deep), twice);
        };
        GraphWalker x = behind(term, false, 0);
        runOut(x);
        Check.due("done", x.outcome(), DONE);
        Check.due("its greatest length", x.told(4), 300);
        GraphWalker y = noRoom(term, 0);
        Check.due("its greatest length", y.told(4), 300);
    }
}
