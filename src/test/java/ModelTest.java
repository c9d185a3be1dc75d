import java.util.ArrayList;
import java.util.List;
import java.util.Random;

/** Runs of calls, the same ones each time, whose answers are held against those of PlainModel. */
public final class ModelTest {
    private static final int FREE_RUNS = 3000;
    private static final int PROGRAM_RUNS = 6000;
    /** What an object answers behind as many calls is free. */
    private static final int MOST_CALLS = 512;

    private static final int[] ends = new int[6];

    private interface Call {
        long of();
    }

    private final Random random;
    private final String name;
    private final GraphWalker real = new GraphWalker();
    private final PlainModel model = new PlainModel();
    private int calls = 0;
    private int terms = 0;
    private final List<Integer> closed = new ArrayList<>();
    private boolean differs = false;

    private ModelTest(String name, long seed) {
        this.name = name;
        this.random = new Random(seed);
    }

    public static void main(String[] args) {
        for (int i = 0; i < FREE_RUNS; i++) {
            new ModelTest("free run " + i, i).freeRun();
        }
        for (int i = 0; i < PROGRAM_RUNS; i++) {
            new ModelTest("program " + i, 1000000L + i).programRun();
        }
        Check.part("the model's runs");
        for (int outcome = 1; outcome < ends.length; outcome++) {
            Check.isTrue("outcome " + outcome + " came often", ends[outcome] > 100);
        }
        Check.end();
    }

    private static long answer(Call call) {
        try {
            return call.of();
        } catch (IndexOutOfBoundsException e) {
            return Long.MIN_VALUE + 1001;
        } catch (IllegalStateException e) {
            return Long.MIN_VALUE + 1002;
        } catch (IllegalArgumentException e) {
            return Long.MIN_VALUE + 1003;
        }
    }

    private long both(String what, Call ofReal, Call ofModel) {
        long want = answer(ofModel);
        if (calls == MOST_CALLS) {
            return want;
        }
        calls++;
        long got = answer(ofReal);
        if (got != want && !differs) {
            differs = true;
            Check.part(name);
            Check.due(what, got, want);
        }
        return want;
    }

    private int madeTerm(long answer) {
        if (answer < 0) {
            return -1;
        }
        terms = (int) answer + 1;
        if (model.lacks((int) answer) == 0) {
            closed.add((int) answer);
        }
        return (int) answer;
    }

    private int number(long v) {
        return madeTerm(both("number", () -> real.number(v), () -> model.number(v)));
    }

    private int variable(int i) {
        return madeTerm(both("variable", () -> real.variable(i), () -> model.variable(i)));
    }

    private int one(int sort, int t) {
        return madeTerm(both("one", () -> real.one(sort, t), () -> model.one(sort, t)));
    }

    private int two(int sort, int a, int b) {
        return madeTerm(both("two", () -> real.two(sort, a, b), () -> model.two(sort, a, b)));
    }

    private int choose(int c, int a, int b) {
        return madeTerm(both("choose", () -> real.choose(c, a, b), () -> model.choose(c, a, b)));
    }

    private void begin(int t, boolean sharing) {
        ends[model.outcome()]++;
        both("begin", () -> {
            real.begin(t, sharing);
            return 0;
        }, () -> {
            model.begin(t, sharing);
            return 0;
        });
    }

    private void into(int which) {
        both("into", () -> {
            real.into(which);
            return 0;
        }, () -> {
            model.into(which);
            return 0;
        });
    }

    private void run(int n) {
        both("run(" + n + ")", () -> real.run(n), () -> model.run(n));
    }

    private void every(int n) {
        both("every", () -> real.every(n), () -> model.every(n));
    }

    private void collect() {
        both("collect", real::collect, model::collect);
    }

    private void askTold(int what) {
        both("told(" + what + ")", () -> real.told(what), () -> model.told(what));
    }

    private void askThing(int k) {
        both("thing(" + k + ")", () -> real.thing(k), () -> model.thing(k));
    }

    private void askWorked(int k, int what) {
        both("worked(" + k + ", " + what + ")", () -> real.worked(k, what), () -> model.worked(k, what));
    }

    private void askEntry(int k) {
        both("entry(" + k + ")", () -> real.entry(k), () -> model.entry(k));
    }

    private void askRing(int k) {
        both("ring(" + k + ")", () -> real.ring(k), () -> model.ring(k));
    }

    private void askLacks(int t) {
        both("lacks(" + t + ")", () -> real.lacks(t), () -> model.lacks(t));
    }

    private void askEnd() {
        both("outcome", real::outcome, model::outcome);
        both("sort", real::sort, model::sort);
        both("value", real::value, model::value);
    }

    private int things() {
        return Math.max(model.told(1), 0);
    }

    private int entries() {
        return Math.max(model.told(3), 0);
    }

    private int questions() {
        return 3 + 10 + 6 * (things() + 2) + 2 * (entries() + 2) + terms + 2;
    }

    /** All that can be asked if the object is good for as many calls, else some of it. */
    private void lookAtEnd() {
        if (calls + questions() > MOST_CALLS) {
            look(MOST_CALLS - calls - 3);
            return;
        }
        askEnd();
        for (int what = -1; what <= 8; what++) {
            askTold(what);
        }
        for (int k = -1; k <= things(); k++) {
            askThing(k);
            for (int what = -1; what <= 3; what++) {
                askWorked(k, what);
            }
        }
        for (int k = -1; k <= entries(); k++) {
            askEntry(k);
            askRing(k);
        }
        for (int t = -1; t <= terms; t++) {
            askLacks(t);
        }
    }

    private void look(int most) {
        askEnd();
        for (int i = 0; i < most; i++) {
            askOne();
        }
    }

    /** One of so many, or one beyond them at either end. */
    private int among(int count) {
        return below(count + 2) - 1;
    }

    private void askOne() {
        switch (below(8)) {
            case 0:
            case 1:
                askTold(among(8));
                break;
            case 2:
            case 3:
                askThing(among(things()));
                break;
            case 4:
            case 5:
                askWorked(among(things()), among(3));
                break;
            case 6:
                askEntry(among(entries()));
                break;
            default:
                if (below(4) == 0) {
                    askLacks(among(terms));
                } else {
                    askRing(model.outcome() == 3 ? among(3) : among(entries()));
                }
                break;
        }
    }

    private int below(int n) {
        return random.nextInt(n);
    }

    private int someTerm() {
        if (terms == 0 || below(60) == 0) {
            return below(5) == 0 ? -1 : below(300);
        }
        return below(3) == 0 ? below(terms) : Math.max(terms - 1 - below(6), 0);
    }

    private long someNumber() {
        switch (below(6)) {
            case 0:
                return random.nextLong();
            case 1:
                return below(2) == 0 ? Long.MIN_VALUE : -1;
            default:
                return below(5) - 1;
        }
    }

    private void freeRun() {
        int many = 20 + below(250);
        for (int i = 0; i < many && !differs && calls < MOST_CALLS - 100; i++) {
            freeCall();
            if (below(4) == 0) {
                look(5);
            }
        }
        lookAtEnd();
        ends[model.outcome()]++;
    }

    private void freeCall() {
        switch (below(16)) {
            case 0:
                number(someNumber());
                break;
            case 1:
            case 2:
                variable(below(30) == 0 ? below(70) - 4 : below(3));
                break;
            case 3:
            case 4:
                one(below(30) == 0 ? below(6) - 2 : below(3), someTerm());
                break;
            case 5:
            case 6:
            case 7:
            case 8:
                two(below(30) == 0 ? below(13) - 2 : below(9), someTerm(), someTerm());
                break;
            case 9:
                choose(someTerm(), someTerm(), someTerm());
                break;
            case 10:
            case 11:
                begin(closed.isEmpty() || below(20) == 0 ? someTerm() : closedTerm(), below(3) != 0);
                break;
            case 12:
            case 13:
                run(below(30) == 0 ? below(2) * 5010 - 5 : below(4) == 0 ? 3000 : below(20));
                break;
            case 14:
                into(below(10) == 0 ? below(4) - 1 : below(2));
                break;
            default:
                if (below(2) == 0) {
                    collect();
                } else {
                    every(below(10) == 0 ? below(2) * 5010 - 5 : below(7));
                }
                break;
        }
    }

    private int closedTerm() {
        int from = below(2) == 0 ? Math.max(closed.size() - 4, 0) : 0;
        return closed.get(from + below(closed.size() - from));
    }

    /** A program keeps to sorts of values most of the time, so that it gets far. */
    private void programRun() {
        int t = program();
        if (t < 0) {
            return;
        }
        if (below(2) == 0) {
            every(1 + below(below(2) == 0 ? 4 : 300));
        }
        begin(t, below(5) != 0);
        for (int i = 0; i < 8 && !differs; i++) {
            run(below(3) == 0 ? below(30) : below(2000));
            if (below(4) == 0) {
                collect();
            }
            look(20);
            if (model.sort() == 2) {
                into(below(2));
            } else if (model.outcome() != 1) {
                break;
            }
        }
        if (below(2) == 0) {
            collect();
        }
        lookAtEnd();
        ends[model.outcome()]++;
    }

    private int program() {
        List<Character> around = new ArrayList<>();
        int lets = 1 + below(3);
        List<Integer> bound = new ArrayList<>();
        for (int i = 0; i < lets; i++) {
            char sort = "nfpffpp".charAt(below(7));
            around.add(0, sort);
            bound.add(sort == 'f' && below(3) != 0 ? recursion(around) : term(sort, around, 4));
        }
        int t = term(below(2) == 0 ? 'p' : 'n', around, 4);
        for (int i = lets - 1; i >= 0; i--) {
            t = two(1, bound.get(i), t);
        }
        return t;
    }

    /** A lambda that calls itself, the innermost around, with less. */
    private int recursion(List<Character> around) {
        List<Character> inner = new ArrayList<>(around);
        inner.add(0, 'n');
        int less = two(4, variable(0), number(1));
        int call = two(0, variable(1), less);
        int again = below(3) == 0 ? call
            : below(2) == 0 ? two(3, term('n', inner, 1), call)
            : two(3, call, below(2) == 0 ? variable(0) : number(0));
        return one(0, choose(two(8, number(0), variable(0)), again, term('n', inner, 2)));
    }

    private int term(char sort, List<Character> around, int depth) {
        if (depth > 0 && below(4) != 0) {
            int t = compound(sort, around, depth - 1);
            if (t != -1) {
                return t;
            }
        }
        List<Integer> fitting = new ArrayList<>();
        for (int i = 0; i < around.size(); i++) {
            if (around.get(i) == sort || below(60) == 0) {
                fitting.add(i);
            }
        }
        if (!fitting.isEmpty() && below(4) != 0) {
            return variable(fitting.get(below(fitting.size())));
        }
        return leaf(sort, around);
    }

    private int leaf(char sort, List<Character> around) {
        if (sort == 'n') {
            return number(below(4) == 0 ? below(600) : below(4));
        }
        if (sort == 'p') {
            return two(2, number(below(9)), around.contains('p') ? variable(around.indexOf('p'))
                : number(3));
        }
        return one(0, two(3, variable(0), number(1)));
    }

    private List<Character> with(List<Character> around, char sort) {
        List<Character> inner = new ArrayList<>(around);
        inner.add(0, sort);
        return inner;
    }

    private int compound(char sort, List<Character> around, int depth) {
        char other = "nfp".charAt(below(3));
        switch (below(5)) {
            case 0:
                return two(1, term(other, with(around, other), depth),
                    term(sort, with(around, other), depth));
            case 1:
                return choose(term('n', around, depth), term(sort, around, depth),
                    term(sort, around, depth));
            case 2:
                return two(0, one(0, term(sort, with(around, other), depth)),
                    term(other, around, depth));
            default:
                return ofSort(sort, around, depth);
        }
    }

    private int ofSort(char sort, List<Character> around, int depth) {
        if (sort == 'f') {
            return one(0, term('n', with(around, 'n'), depth));
        }
        if (sort == 'p') {
            return below(4) == 0 ? one(2, term('p', around, depth))
                : two(2, term('n', around, depth), term('p', around, depth));
        }
        switch (below(3)) {
            case 0:
                return two(0, term('f', around, depth), term('n', around, depth));
            case 1:
                return one(1, term('p', around, depth));
            default:
                return two(3 + below(6), term('n', around, depth), term('n', around, depth));
        }
    }
}
