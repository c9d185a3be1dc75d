import java.util.ArrayDeque;
import java.util.ArrayList;
import java.util.HashSet;
import java.util.List;
import java.util.Set;
import java.util.TreeSet;

/**
 * The document again, written another way: objects and sets, and a step that ends the run is undone
 * from a copy. ModelTest holds GraphWalker's answers against it.
 */
final class PlainModel {
    private enum Sort { NUMBER, VARIABLE, LAMBDA, FIRST, SECOND, APPLY, LET, PAIR, ACT, CHOOSE }

    private static final class Term {
        int no;
        Sort sort;
        long v;
        final List<Term> parts = new ArrayList<>();
        final Set<Integer> free = new TreeSet<>();
    }

    private static final class Env {
        final Thing thing;
        final Env outer;

        Env(Thing thing, Env outer) {
            this.thing = thing;
            this.outer = outer;
        }
    }

    private static final class Val {
        int sort;
        long number;
        Term lambda;
        Env env;
        Thing a;
        Thing b;
    }

    private static final class Thing {
        int no;
        int state;
        Term term;
        Env env;
        Val val;
        int times;
        Thing needer;
    }

    private static final class Entry {
        final int kind;
        final Thing thing;
        final Term term;
        final Env env;
        final long number;

        Entry(int kind, Thing thing, Term term, Env env, long number) {
            this.kind = kind;
            this.thing = thing;
            this.term = term;
            this.env = env;
            this.number = number;
        }
    }

    private static final class Ends extends RuntimeException {
        private static final long serialVersionUID = 1L;
        final int outcome;

        Ends(int outcome) {
            super(null, null, false, false);
            this.outcome = outcome;
        }
    }

    private final List<Term> terms = new ArrayList<>();
    private List<Thing> things = new ArrayList<>();
    private List<Entry> row = new ArrayList<>();
    private Term handTerm;
    private Env handEnv;
    private Val handVal;
    private Thing handThing;
    private Thing ringThing;
    private boolean sharing;
    private int outcome;
    private int steps;
    private int gone;
    private int greatest;
    private int needDone;
    private int needWaiting;
    private int placesMade;
    private int pace;

    private static IndexOutOfBoundsException index() {
        return new IndexOutOfBoundsException("model");
    }

    private static IllegalStateException state() {
        return new IllegalStateException("model");
    }

    private static IllegalArgumentException argument() {
        return new IllegalArgumentException("model");
    }

    private Term term(int k) {
        if (k < 0 || k >= terms.size()) {
            throw index();
        }
        return terms.get(k);
    }

    private void roomForTerm() {
        if (terms.size() == 200) {
            throw state();
        }
    }

    private int add(Sort sort, long v, Term... parts) {
        Term t = new Term();
        t.no = terms.size();
        t.sort = sort;
        t.v = v;
        boolean binds = sort == Sort.LAMBDA || sort == Sort.LET;
        for (Term p : parts) {
            t.parts.add(p);
            for (int f : p.free) {
                if (!binds) {
                    t.free.add(f);
                } else if (f > 0) {
                    t.free.add(f - 1);
                }
            }
        }
        if (sort == Sort.VARIABLE) {
            t.free.add((int) v);
        }
        terms.add(t);
        return t.no;
    }

    int number(long v) {
        roomForTerm();
        return add(Sort.NUMBER, v);
    }

    int variable(int i) {
        roomForTerm();
        if (i < 0 || i > 60) {
            throw argument();
        }
        return add(Sort.VARIABLE, i);
    }

    int one(int sort, int t) {
        Term p = term(t);
        roomForTerm();
        if (sort < 0 || sort > 2) {
            throw argument();
        }
        return add(List.of(Sort.LAMBDA, Sort.FIRST, Sort.SECOND).get(sort), 0, p);
    }

    int two(int sort, int a, int b) {
        Term p = term(a);
        Term q = term(b);
        roomForTerm();
        if (sort < 0 || sort > 8) {
            throw argument();
        }
        if (sort > 2) {
            return add(Sort.ACT, sort - 3, p, q);
        }
        return add(List.of(Sort.APPLY, Sort.LET, Sort.PAIR).get(sort), 0, p, q);
    }

    int choose(int c, int a, int b) {
        Term p = term(c);
        Term q = term(a);
        Term r = term(b);
        roomForTerm();
        return add(Sort.CHOOSE, 0, p, q, r);
    }

    int lacks(int t) {
        int most = 0;
        for (int f : term(t).free) {
            most = Math.max(most, f + 1);
        }
        return most;
    }

    void begin(int t, boolean withSharing) {
        Term first = term(t);
        if (!first.free.isEmpty()) {
            throw state();
        }
        things = new ArrayList<>();
        row = new ArrayList<>();
        atHand(first, null);
        ringThing = null;
        sharing = withSharing;
        outcome = 1;
        steps = 0;
        gone = 0;
        greatest = 0;
        needDone = 0;
        needWaiting = 0;
        placesMade = 0;
    }

    private void atHand(Term t, Env e) {
        handTerm = t;
        handEnv = e;
        handVal = null;
        handThing = null;
    }

    private void atHand(Val v) {
        handTerm = null;
        handEnv = null;
        handVal = v;
        handThing = null;
    }

    int run(int n) {
        if (outcome == 0) {
            throw state();
        }
        if (n < 0 || n > 5000) {
            throw argument();
        }
        int done = 0;
        for (; done < n && outcome == 1; done++) {
            if (pace != 0 && steps % pace == 0) {
                collect();
            }
            stepOrUndo();
        }
        return done;
    }

    private void stepOrUndo() {
        List<Entry> rowBefore = new ArrayList<>(row);
        List<Thing> thingsBefore = new ArrayList<>(things);
        Term termBefore = handTerm;
        Env envBefore = handEnv;
        Val valBefore = handVal;
        Thing thingBefore = handThing;
        int placesBefore = placesMade;
        steps++;
        try {
            step();
            greatest = Math.max(greatest, row.size());
            if (handVal != null && row.isEmpty()) {
                outcome = 2;
            }
        } catch (Ends e) {
            outcome = e.outcome;
            row = rowBefore;
            things = thingsBefore;
            handTerm = termBefore;
            handEnv = envBefore;
            handVal = valBefore;
            handThing = thingBefore;
            placesMade = placesBefore;
        }
    }

    private void step() {
        if (handThing != null) {
            need(handThing);
        } else if (handTerm != null) {
            stepTerm(handTerm, handEnv);
        } else {
            stepValue(row.remove(row.size() - 1), handVal);
        }
    }

    private void push(Entry e) {
        row.add(e);
        if (row.size() > 300) {
            throw new Ends(5);
        }
    }

    private Thing newThing(Term t, Env e) {
        if (things.size() - gone == 300 || things.size() == 1000) {
            throw new Ends(5);
        }
        Thing th = new Thing();
        th.no = things.size();
        th.term = t;
        th.env = e;
        things.add(th);
        return th;
    }

    private Env newPlace(Thing th, Env outer) {
        if (placesMade == 1000) {
            throw new Ends(5);
        }
        placesMade++;
        return new Env(th, outer);
    }

    private static Thing placed(Term variable, Env env) {
        Env e = env;
        for (long i = 0; i < variable.v; i++) {
            e = e.outer;
        }
        return e.thing;
    }

    private Thing thingOf(Term t, Env e) {
        return t.sort == Sort.VARIABLE ? placed(t, e) : newThing(t, e);
    }

    private static Val numberVal(long n) {
        Val v = new Val();
        v.number = n;
        return v;
    }

    private void stepTerm(Term t, Env e) {
        switch (t.sort) {
            case NUMBER -> atHand(numberVal(t.v));
            case LAMBDA -> {
                Val v = new Val();
                v.sort = 1;
                v.lambda = t;
                v.env = e;
                atHand(v);
            }
            case PAIR -> {
                Val v = new Val();
                v.sort = 2;
                v.a = thingOf(t.parts.get(0), e);
                v.b = thingOf(t.parts.get(1), e);
                atHand(v);
            }
            case VARIABLE -> need(placed(t, e));
            case APPLY -> {
                push(new Entry(1, thingOf(t.parts.get(1), e), null, null, 0));
                atHand(t.parts.get(0), e);
            }
            case LET -> {
                Thing th = newThing(t.parts.get(0), null);
                th.env = newPlace(th, e);
                atHand(t.parts.get(1), th.env);
            }
            case ACT -> pushAndEnter(2, t, e);
            case CHOOSE -> pushAndEnter(4, t, e);
            case FIRST -> pushAndEnter(5, t, e);
            default -> pushAndEnter(6, t, e);
        }
    }

    private void pushAndEnter(int kind, Term t, Env e) {
        push(new Entry(kind, null, t, kind >= 5 ? null : e, 0));
        atHand(t.parts.get(0), e);
    }

    private Thing latestInWork() {
        Thing latest = null;
        for (Entry e : row) {
            if (e.kind == 0) {
                latest = e.thing;
            }
        }
        return latest;
    }

    private void need(Thing th) {
        if (th.state == 3) {
            throw new AssertionError("a thing that is gone was needed");
        }
        if (th.state == 1) {
            ringThing = th;
            throw new Ends(3);
        }
        if (th.state == 2) {
            needDone++;
            atHand(th.val);
            return;
        }
        if (sharing) {
            Thing needer = latestInWork();
            push(new Entry(0, th, null, null, 0));
            th.state = 1;
            th.needer = needer;
        }
        needWaiting++;
        th.times++;
        atHand(th.term, th.env);
    }

    private static void sortDue(Val v, int sort) {
        if (v.sort != sort) {
            throw new Ends(4);
        }
    }

    private void stepValue(Entry e, Val v) {
        switch (e.kind) {
            case 0 -> {
                e.thing.state = 2;
                e.thing.val = v;
            }
            case 1 -> {
                sortDue(v, 1);
                atHand(v.lambda.parts.get(0), newPlace(e.thing, v.env));
            }
            case 2 -> {
                sortDue(v, 0);
                push(new Entry(3, null, e.term, null, v.number));
                atHand(e.term.parts.get(1), e.env);
            }
            case 3 -> {
                sortDue(v, 0);
                atHand(numberVal(act((int) e.term.v, e.number, v.number)));
            }
            case 4 -> {
                sortDue(v, 0);
                atHand(e.term.parts.get(v.number == 0 ? 2 : 1), e.env);
            }
            default -> {
                sortDue(v, 2);
                need(e.kind == 5 ? v.a : v.b);
            }
        }
    }

    private static long act(int o, long x, long y) {
        if (o == 3 && y == 0) {
            throw new Ends(4);
        }
        return switch (o) {
            case 0 -> x + y;
            case 1 -> x - y;
            case 2 -> x * y;
            case 3 -> x / y;
            case 4 -> x == y ? 1 : 0;
            default -> x < y ? 1 : 0;
        };
    }

    void into(int which) {
        if (outcome != 2 || handVal.sort != 2) {
            throw state();
        }
        if (which != 0 && which != 1) {
            throw argument();
        }
        Thing th = which == 0 ? handVal.a : handVal.b;
        atHand((Val) null);
        handThing = th;
        outcome = 1;
    }

    int outcome() {
        return outcome;
    }

    int sort() {
        return outcome == 2 ? handVal.sort : -1;
    }

    long value() {
        return outcome == 2 && handVal.sort == 0 ? handVal.number : 0;
    }

    int told(int what) {
        if (what < 0 || what > 7) {
            throw argument();
        }
        int[] all = {steps, things.size(), things.size() - gone, row.size(), greatest, needDone,
            needWaiting, placesMade};
        return outcome == 0 ? -1 : all[what];
    }

    private Thing made(int k) {
        if (k < 0 || k >= things.size()) {
            throw index();
        }
        return things.get(k);
    }

    int thing(int k) {
        return made(k).state;
    }

    int worked(int k, int what) {
        Thing th = made(k);
        if (what < 0 || what > 2) {
            throw argument();
        }
        int needer = th.needer == null ? -1 : th.needer.no;
        return what == 0 ? th.times : what == 1 ? needer : th.term.no;
    }

    int ring(int k) {
        List<Integer> members = new ArrayList<>();
        if (outcome == 3) {
            members.add(ringThing.no);
            boolean later = false;
            for (Entry e : row) {
                if (e.kind == 0 && later) {
                    members.add(e.thing.no);
                }
                later = later || e.thing == ringThing && e.kind == 0;
            }
        }
        if (k < 0 || k >= members.size()) {
            throw index();
        }
        return members.get(k);
    }

    int entry(int k) {
        if (k < 0 || k >= row.size()) {
            throw index();
        }
        return row.get(k).kind;
    }

    int collect() {
        if (outcome == 0) {
            throw state();
        }
        Set<Thing> reached = new HashSet<>();
        ArrayDeque<Thing> open = new ArrayDeque<>();
        openEnv(handEnv, open);
        openVal(handVal, open);
        openThing(handThing, open);
        for (Entry e : row) {
            openEnv(e.env, open);
            openThing(e.thing, open);
        }
        while (!open.isEmpty()) {
            Thing th = open.pop();
            if (reached.add(th)) {
                if (th.state == 0) {
                    openEnv(th.env, open);
                } else if (th.state == 2) {
                    openVal(th.val, open);
                }
            }
        }
        int before = gone;
        for (Thing th : things) {
            if (th.state != 3 && !reached.contains(th)) {
                th.state = 3;
                gone++;
            }
        }
        return gone - before;
    }

    private static void openThing(Thing th, ArrayDeque<Thing> open) {
        if (th != null) {
            open.push(th);
        }
    }

    private static void openEnv(Env env, ArrayDeque<Thing> open) {
        for (Env e = env; e != null; e = e.outer) {
            open.push(e.thing);
        }
    }

    private static void openVal(Val v, ArrayDeque<Thing> open) {
        if (v != null) {
            openEnv(v.env, open);
            openThing(v.a, open);
            openThing(v.b, open);
        }
    }

    int every(int n) {
        if (n < 0 || n > 5000) {
            throw argument();
        }
        int before = pace;
        pace = n;
        return before;
    }
}
