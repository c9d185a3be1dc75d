/** Promises 19 and 20: what is gone by COLLECTING, and when it is done. */
final class CollectCases extends Parts {
    private static void gone(String what, Term term, int steps, int due) {
        GraphWalker x = behind(term, true, steps);
        Check.due(what, x.collect(), due);
        Check.due(what + ", once more", x.collect(), 0);
        Check.due(what + ", there", x.told(2), x.told(1) - due);
    }

    private static int sum(GraphWalker x) {
        return x.two(ADD, x.number(1), x.number(2));
    }

    static void promise19NoRunIsRefused() {
        refused("collect()", STATE, GraphWalker::new, x -> x.collect());
        refused("collect() with terms", STATE, () -> {
            GraphWalker x = new GraphWalker();
            sum(x);
            x.every(1);
            return x;
        }, x -> x.collect());
    }

    static void promise19NothingIsThere() {
        gone("a new run", CollectCases::sum, 0, 0);
        gone("on its way", CollectCases::sum, 3, 0);
        gone("done", CollectCases::sum, 5, 0);
    }

    static void promise19HowManyAreGoneByIt() {
        // Three times (v: 1) 6, one behind the other.
        Term term = x -> {
            int t = given(x, x.number(1));
            return x.two(ADD, t, x.two(ADD, t, t));
        };
        GraphWalker x = behind(term, true, 5);
        Check.due("the first", x.collect(), 1);
        runOut(x);
        Check.due("the other two", x.collect(), 2);
        Check.due("no more", x.collect(), 0);
        Check.due("made", x.told(1), 3);
        Check.due("there", x.told(2), 0);
        for (int k = 0; k < 3; k++) {
            Check.due("gone", x.thing(k), 3);
        }
    }

    static void promise19PlacesOfTheTermAtHand() {
        gone("(v: 5) 6 with 5 at hand", x -> given(x, x.number(5)), 3, 0);
        gone("(v: 5) 6 with its number at hand", x -> given(x, x.number(5)), 4, 1);
    }

    static void promise19PlacesOfTheLambdaAtHand() {
        gone("(v: w: 5) 6", x -> given(x, x.one(LAMBDA, x.number(5))), 4, 0);
        Term within = x -> x.two(APPLY, given(x, x.one(LAMBDA, x.number(5))), x.number(7));
        gone("(v: w: 5) 6 7 with the lambda at hand", within, 5, 0);
        gone("(v: w: 5) 6 7 done", within, 7, 2);
    }

    static void promise19ThingsOfThePairAtHand() {
        gone("PAIR 1, 2", x -> x.two(PAIR, x.number(1), x.number(2)), 1, 0);
        gone("FIRST (PAIR 1, 2)", x -> x.one(FIRST, x.two(PAIR, x.number(1), x.number(2))), 2, 0);
    }

    static void promise19TheThingOfInto() {
        for (int which = 0; which < 2; which++) {
            GraphWalker x = behind(y -> y.two(PAIR, y.number(1), y.number(2)), true, 1);
            x.into(which);
            Check.due("the other one", x.collect(), 1);
            Check.due("the first", x.thing(0), which == 0 ? 0 : 3);
            Check.due("the second", x.thing(1), which == 0 ? 3 : 0);
            x.run(99);
            Check.due("its value", x.value(), which + 1);
        }
    }

    static void promise19TheThingOfItWasThat() {
        Term term = x -> x.two(LET, x.number(5), x.variable(0));
        gone("5 is at hand", term, 3, 0);
        gone("done", term, 4, 1);
    }

    static void promise19TheThingOfGiveIt() {
        gone("the lambda's term at hand", x -> given(x, x.number(5)), 1, 0);
        gone("the lambda at hand", x -> given(x, x.number(5)), 2, 0);
    }

    static void promise19PlacesOfThenB() {
        gone("5 is at hand", x -> given(x, x.two(ADD, x.number(5), x.number(7))), 5, 0);
    }

    static void promise19ActWithItHoldsNothing() {
        gone("7 is at hand, as a term", x -> given(x, x.two(ADD, x.number(5), x.number(7))), 6, 0);
        gone("7 is at hand", x -> given(x, x.two(ADD, x.number(5), x.number(7))), 7, 1);
    }

    static void promise19PlacesOfChoose() {
        Term term = x -> given(x, x.choose(x.number(5), x.number(7), x.number(7)));
        gone("5 is at hand", term, 5, 0);
        gone("7 is at hand, as a term", term, 6, 0);
        gone("done", term, 7, 1);
    }

    static void promise19FirstAndSecondHoldNothing() {
        gone("first", x -> given(x, x.one(FIRST, x.number(5))), 5, 1);
        gone("second", x -> given(x, x.one(SECOND, x.number(5))), 5, 1);
    }

    static void promise19ThroughPlacesOfWaitingThings() {
        gone("(v: PAIR 1, 2) 6", x -> given(x, x.two(PAIR, x.number(1), x.number(2))), 4, 0);
        // LET a = 1 in LET b = a + 1 in PAIR b, b.
        gone("a by b", x -> {
            int v0 = x.variable(0);
            int b = x.two(ADD, x.variable(1), x.number(1));
            return x.two(LET, x.number(1), x.two(LET, b, x.two(PAIR, v0, v0)));
        }, 3, 0);
    }

    static void promise19ThroughPlacesOfDoneLambdas() {
        // LET g = (a: b: 1) 7 in CHOOSE (g 0), (PAIR g, g), 6: 0 g, 1 the 0, 2 the 7.
        GraphWalker x = ended(y -> {
            int v0 = y.variable(0);
            int g = y.two(APPLY, y.one(LAMBDA, y.one(LAMBDA, y.number(1))), y.number(7));
            int asked = y.two(APPLY, v0, y.number(0));
            return y.two(LET, g, y.choose(asked, y.two(PAIR, v0, v0), y.number(6)));
        });
        Check.due("the 0 alone", x.collect(), 1);
        Check.due("g", x.thing(0), 2);
        Check.due("the 0", x.thing(1), 3);
        Check.due("the 7", x.thing(2), 0);
    }

    static void promise19ThroughDonePairs() {
        // LET p = PAIR 1, 2 in CHOOSE (FIRST p), (PAIR p, p), 6: 0 p, 1 and 2 its things.
        GraphWalker x = ended(y -> {
            int v0 = y.variable(0);
            int p = y.two(PAIR, y.number(1), y.number(2));
            return y.two(LET, p, y.choose(y.one(FIRST, v0), y.two(PAIR, v0, v0), y.number(6)));
        });
        Check.due("none", x.collect(), 0);
        Check.due("there", x.told(2), 3);
    }

    static void promise19ADoneNumberHoldsNothing() {
        // (v: LET w = v + 1 in CHOOSE w, (PAIR w, w), 6) 6: 0 v, 1 w.
        GraphWalker x = ended(y -> {
            int v0 = y.variable(0);
            int w = y.two(ADD, y.variable(1), y.number(1));
            return given(y, y.two(LET, w, y.choose(v0, y.two(PAIR, v0, v0), y.number(6))));
        });
        Check.due("v alone", x.collect(), 1);
        Check.due("v", x.thing(0), 3);
        Check.due("w", x.thing(1), 2);
    }

    static void promise19AnInWorkThingHoldsNothing() {
        // (v: LET w = 5 in w) 6: w is waiting, in work with 5 at hand as a term, as a number.
        Term term = x -> given(x, x.two(LET, x.number(5), x.variable(0)));
        gone("w is waiting", term, 4, 0);
        gone("the term at hand holds v", term, 5, 0);
        gone("w is in work", term, 6, 1);
        GraphWalker x = behind(term, true, 6);
        x.collect();
        Check.due("v", x.thing(0), 3);
        Check.due("w", x.thing(1), 1);
        x.run(1);
        Check.due("value", x.value(), 5);
        Check.due("w at last", x.collect(), 1);
    }

    static void promise19PlacesAreHeldAsFarAsTheyGo() {
        Term term = x -> {
            int t = x.number(5);
            for (int i = 0; i < 3; i++) {
                t = given(x, t);
            }
            return t;
        };
        gone("5 names none of the three", term, 9, 0);
        gone("done", term, 10, 3);
        Term lets = x -> x.two(LET, x.number(1), x.two(LET, x.number(2), x.number(5)));
        gone("lets", lets, 2, 0);
        gone("lets, done", lets, 3, 2);
    }

    static void promise19ThingsThatHoldOneAnotherAreGone() {
        gone("a let that names itself", x -> {
            int v0 = x.variable(0);
            return x.two(LET, x.two(PAIR, v0, v0), x.number(5));
        }, 2, 1);
        // LET p = PAIR p, 5 in SECOND p.
        gone("a done pair of itself", x -> {
            int v0 = x.variable(0);
            return x.two(LET, x.two(PAIR, v0, x.number(5)), x.one(SECOND, v0));
        }, 8, 2);
    }

    static void promise19ThreeHundredThingsAllHeld() {
        // Each "then b" of 296 holds its n, the pair at hand its two things, and these the last n.
        GraphWalker x = ended(y -> {
            int v0 = y.variable(0);
            int zero = y.number(0);
            int call = y.two(APPLY, y.variable(1), y.two(TAKE, v0, y.number(1)));
            int body = y.choose(v0, y.two(ADD, call, zero), y.two(PAIR, zero, zero));
            return y.two(LET, y.one(LAMBDA, body), y.two(APPLY, v0, y.number(296)));
        });
        Check.due("no number to add", x.outcome(), WRONG);
        Check.due("there", x.told(2), 300);
        Check.due("collect()", x.collect(), 0);
        Check.due("still there", x.told(2), 300);
        Check.due("f", x.thing(0), 2);
        Check.due("the last n", x.thing(297), 2);
        Check.due("the pair's second", x.thing(299), 0);
    }

    /** u u 160 with u = (s: n: CHOOSE n, (s s (n - 1)) + n, 0): each round has a place of u and one of n. */
    private static int sumByItself(GraphWalker x) {
        int n = x.variable(0);
        int s = x.variable(1);
        int call = x.two(APPLY, x.two(APPLY, s, s), x.two(TAKE, n, x.number(1)));
        int body = x.choose(n, x.two(ADD, call, n), x.number(0));
        int u = x.one(LAMBDA, x.one(LAMBDA, body));
        return x.two(APPLY, x.two(APPLY, u, u), x.number(160));
    }

    static void promise19AThingThatManyPlacesHold() {
        GraphWalker x = behind(CollectCases::sumByItself, true, 2573);
        Check.due("then b", x.told(3), 160);
        Check.due("places", x.told(7), 322);
        Check.due("each n and u", x.told(2), 162);
        Check.due("collect()", x.collect(), 0);
        Check.due("u", x.thing(1), 2);
        Check.due("the last n but one", x.thing(160), 2);
        x.run(5000);
        Check.due("value", x.value(), 12880);
        Check.due("collecting ahead of each step", endedWith(CollectCases::sumByItself, 1).value(), 12880);
    }

    static void promise19WithoutSharing() {
        Term term = x -> x.two(LET, x.number(5), x.variable(0));
        GraphWalker x = behind(term, false, 2);
        Check.due("its term is at hand with it as a place", x.collect(), 0);
        x.run(1);
        Check.due("nothing in the row holds it", x.collect(), 1);
        Check.due("value", x.value(), 5);
    }

    static void promise19OfAnEndedRun() {
        gone("endless", x -> {
            int v0 = x.variable(0);
            return x.two(LET, v0, v0);
        }, 3, 0);
        gone("wrong: give it holds", x -> x.two(APPLY, x.number(1), x.number(2)), 3, 0);
        GraphWalker x = ended(Parts::selfGiven);
        Check.due("room: the thing that is given", x.collect(), 0);
        GraphWalker y = ended(z -> loop(z, 298, z.two(APPLY, z.one(LAMBDA, z.number(6)), z.number(6))));
        Check.due("room", y.outcome(), ROOM);
        Check.isTrue("most are gone", y.collect() > 290);
        Check.due("it stays ended", y.outcome(), ROOM);
    }

    static void promise19ChangesNoAnswer() {
        Term term = x -> loop(x, 20, x.two(PAIR, x.variable(0), x.number(7)));
        GraphWalker plain = ended(term);
        int steps = plain.told(0);
        for (int at = 0; at <= steps; at += 7) {
            GraphWalker x = behind(term, true, at);
            String before = Seen.end(x) + x.told(1) + " " + x.told(3) + " " + x.told(4) + " " + x.told(5)
                + " " + x.told(6) + " " + x.told(7);
            x.collect();
            Check.same("behind " + at + " steps", Seen.end(x) + x.told(1) + " " + x.told(3) + " "
                + x.told(4) + " " + x.told(5) + " " + x.told(6) + " " + x.told(7), before);
            runOut(x);
            Check.same("its end", Seen.end(x), Seen.end(plain));
            x.into(1);
            x.run(99);
            Check.due("its second", x.value(), 7);
        }
    }

    static void promise19LeavesThePace() {
        GraphWalker x = behind(CollectCases::sum, true, 2);
        x.every(7);
        x.collect();
        Check.due("every(0)", x.every(0), 7);
    }

    /** (v: 6) 6, then 1 + 1, ..: its thing is held until step 4 (from 0) is done. */
    private static int garbageFirst(GraphWalker x) {
        int one = x.number(1);
        return x.two(ADD, given(x, x.number(6)), x.two(ADD, one, x.two(ADD, one, one)));
    }

    private static GraphWalker paced(int pace) {
        GraphWalker x = behind(CollectCases::garbageFirst, true, 3);
        x.every(pace);
        return x;
    }

    static void promise20WhatItWas() {
        GraphWalker x = new GraphWalker();
        Check.due("at first", x.every(1), 0);
        Check.due("1", x.every(5000), 1);
        Check.due("5000", x.every(17), 5000);
        Check.due("17", x.every(17), 17);
        Check.due("17", x.every(0), 17);
        Check.due("0", x.every(0), 0);
    }

    static void promise20From0To5000() {
        int[] bad = {-1, 5001, BAD_LOW, BAD_HIGH};
        for (int steps : bad) {
            refused("every(" + steps + ")", ARGUMENT, () -> paced(3), x -> x.every(steps));
            refused("at first", ARGUMENT, GraphWalker::new, x -> x.every(steps));
            refused("every(" + steps + ") behind 0", ARGUMENT, () -> paced(0), x -> x.every(steps));
        }
    }

    static void promise20AheadOfMultiplesAlone() {
        for (int pace = 1; pace <= 14; pace++) {
            GraphWalker x = new GraphWalker();
            x.every(pace);
            x.begin(garbageFirst(x), true);
            int first = (5 + pace - 1) / pace * pace;
            for (int done = 1; done <= 16 && x.outcome() == GOES_ON; done++) {
                x.run(1);
                // Step number done - 1 is done; the thing comes with step 1.
                int due = done < 2 ? 0 : done - 1 >= first ? 0 : 1;
                Check.due("every(" + pace + ") behind " + done, x.told(2), due);
            }
            Check.due("its value", x.value(), 9);
        }
    }

    static void promise20NeverWith0() {
        GraphWalker x = paced(0);
        runOut(x);
        Check.due("there", x.told(2), 1);
        Check.due("thing(0)", x.thing(0), 0);
    }

    static void promise20AheadOfStep5000() {
        // Behind (v: 6) 6 a let that names itself goes on for ever without sharing.
        GraphWalker x = new GraphWalker();
        int v0 = x.variable(0);
        int t = x.two(ADD, given(x, x.number(6)), x.two(LET, v0, v0));
        x.every(5000);
        x.begin(t, false);
        x.run(5000);
        Check.due("steps 0 to 4999", x.told(2), 2);
        x.run(1);
        Check.due("ahead of step 5000", x.told(2), 1);
        x.every(4999);
        x.begin(t, false);
        x.run(4999);
        Check.due("steps 0 to 4998", x.told(2), 2);
        x.run(1);
        Check.due("ahead of step 4999", x.told(2), 1);
        x.every(5000);
        x.begin(t, false);
        x.run(5000);
        x.every(0);
        x.run(1);
        Check.due("no more", x.told(2), 2);
        x.every(5000);
        x.run(4999);
        Check.due("behind step 9999", x.told(2), 2);
        x.run(1);
        Check.due("ahead of step 10000", x.told(2), 1);
    }

    static void promise20FromNowOn() {
        GraphWalker x = behind(CollectCases::garbageFirst, true, 6);
        Check.due("it is there", x.told(2), 1);
        x.every(1);
        Check.due("every() itself collects nothing", x.told(2), 1);
        x.run(0);
        Check.due("nor does run(0)", x.told(2), 1);
        x.run(1);
        Check.due("ahead of the next step", x.told(2), 0);
    }

    static void promise20ForAllRuns() {
        GraphWalker x = new GraphWalker();
        int t = garbageFirst(x);
        x.every(1);
        for (int i = 0; i < 3; i++) {
            x.begin(t, i != 1);
            runOut(x);
            Check.due("gone", x.told(2), 0);
            Check.due("its value", x.value(), 9);
        }
        Check.due("it stays", x.every(0), 1);
        x.begin(t, true);
        runOut(x);
        Check.due("never", x.told(2), 1);
    }

    static void promise20NoStepNoCollecting() {
        GraphWalker x = new GraphWalker();
        x.every(1);
        x.begin(given(x, x.number(5)), true);
        runOut(x);
        Check.due("done", x.outcome(), DONE);
        Check.due("not behind the last step", x.told(2), 1);
        x.run(5000);
        Check.due("nor of a done run", x.told(2), 1);
        Check.due("but by collect()", x.collect(), 1);
    }

    static void promise20StepsAreNumberedOnThroughInto() {
        GraphWalker x = new GraphWalker();
        x.every(2);
        x.begin(x.two(PAIR, x.number(1), x.number(2)), true);
        x.run(9);
        x.into(0);
        x.run(1);
        Check.due("no collecting ahead of step 1", x.told(2), 2);
        x.run(1);
        Check.due("collecting ahead of step 2", x.told(2), 1);
    }

    static void promise20AheadOfAStepItMakesRoom() {
        Term term = x -> loop(x, 298, x.two(APPLY, x.one(LAMBDA, x.number(6)), x.number(6)));
        GraphWalker plain = ended(term);
        Check.due("never", plain.outcome(), ROOM);
        // The step that has no room is the one with this number.
        int last = plain.told(0) - 1;
        Check.due("ahead of it", endedWith(term, last).outcome(), DONE);
        Check.due("one step late", endedWith(term, last + 1).outcome(), ROOM);
        Check.due("ahead of each", endedWith(term, 1).outcome(), DONE);
    }

    static void promise20ChangesNoAnswer() {
        Term term = x -> loop(x, 30, x.two(PAIR, x.variable(0), x.number(7)));
        for (int pace = 1; pace <= 50; pace += 7) {
            GraphWalker plain = ended(term);
            GraphWalker x = endedWith(term, pace);
            Check.same("every(" + pace + ")", Seen.end(x), Seen.end(plain));
            for (int what = 1; what < 8; what++) {
                if (what != 2) {
                    Check.due("told(" + what + ")", x.told(what), plain.told(what));
                }
            }
            for (int k = 0; k < x.told(1); k++) {
                Check.due("worked", x.worked(k, 0), plain.worked(k, 0));
                Check.due("needed by", x.worked(k, 1), plain.worked(k, 1));
            }
        }
    }

    static void promise20WithoutARun() {
        GraphWalker x = new GraphWalker();
        x.every(3);
        Check.due("no run comes of it", x.outcome(), 0);
        Check.due("what it was", x.every(3), 3);
    }
}
