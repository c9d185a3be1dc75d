/** Promise 5: what an ACT gives. */
final class ActCases extends Parts {
    private static final long LEAST = Long.MIN_VALUE;
    private static final long GREATEST = Long.MAX_VALUE;

    private static void gives(int sort, long a, long b, long due) {
        GraphWalker x = new GraphWalker();
        int t = x.two(sort, x.number(a), x.number(b));
        Check.due("sort " + sort + " on " + a + ", " + b, worth(x, t), due);
        Check.due("its outcome", x.outcome(), DONE);
        Check.due("its sort", x.sort(), 0);
        Check.due("its steps", x.told(0), 5);
    }

    static void promise05SumModulo2To64() {
        gives(ADD, GREATEST, 0, GREATEST);
        gives(ADD, GREATEST, 1, LEAST);
        gives(ADD, LEAST, -1, GREATEST);
        gives(ADD, LEAST, LEAST, 0);
        gives(ADD, GREATEST, GREATEST, -2);
    }

    static void promise05DifferenceModulo2To64() {
        gives(TAKE, LEAST, 0, LEAST);
        gives(TAKE, LEAST, 1, GREATEST);
        gives(TAKE, GREATEST, -1, LEAST);
        gives(TAKE, 0, LEAST, LEAST);
        gives(TAKE, 3, 10, -7);
    }

    static void promise05ProductModulo2To64() {
        gives(TIMES, 1L << 31, 1L << 31, 1L << 62);
        gives(TIMES, 1L << 32, 1L << 31, LEAST);
        gives(TIMES, 1L << 32, 1L << 32, 0);
        gives(TIMES, LEAST, -1, LEAST);
        gives(TIMES, GREATEST, GREATEST, 1);
        gives(TIMES, GREATEST, 2, -2);
    }

    static void promise05QuotientTowardZero() {
        gives(QUOTIENT, 7, 2, 3);
        gives(QUOTIENT, -7, 2, -3);
        gives(QUOTIENT, 7, -2, -3);
        gives(QUOTIENT, -7, -2, 3);
        gives(QUOTIENT, 0, 5, 0);
        gives(QUOTIENT, 1, 2, 0);
        gives(QUOTIENT, -1, 2, 0);
        gives(QUOTIENT, LEAST, GREATEST, -1);
    }

    static void promise05QuotientModulo2To64() {
        gives(QUOTIENT, LEAST, -1, LEAST);
        gives(QUOTIENT, GREATEST, -1, -GREATEST);
        gives(QUOTIENT, LEAST, 1, LEAST);
    }

    static void promise05QuotientBy0IsWrong() {
        long[] some = {0, 1, -1, LEAST, GREATEST};
        for (long a : some) {
            Scene scene = () -> behind(
                x -> given(x, x.two(QUOTIENT, x.number(a), x.number(0))), true, 0);
            endsAndDoesNothing(scene, WRONG);
            GraphWalker x = scene.make();
            runOut(x);
            Check.due("its row", x.told(3), 1);
            Check.due("act with it stays", x.entry(0), 3);
        }
    }

    static void promise05OtherActsWith0() {
        gives(ADD, 5, 0, 5);
        gives(TAKE, 5, 0, 5);
        gives(TIMES, 5, 0, 0);
        gives(EQUAL, 5, 0, 0);
        gives(EQUAL, 0, 0, 1);
        gives(LESS, 5, 0, 0);
        gives(LESS, 0, 0, 0);
    }

    static void promise05EqualIs1Else0() {
        gives(EQUAL, 4, 4, 1);
        gives(EQUAL, 4, 5, 0);
        gives(EQUAL, LEAST, LEAST, 1);
        gives(EQUAL, 1L << 32, 0, 0);
        gives(EQUAL, LEAST, GREATEST, 0);
        gives(EQUAL, 1000, 1000, 1);
    }

    static void promise05LessIs1Else0() {
        gives(LESS, 4, 5, 1);
        gives(LESS, 4, 4, 0);
        gives(LESS, 5, 4, 0);
        gives(LESS, -1, 0, 1);
        gives(LESS, LEAST, GREATEST, 1);
        gives(LESS, GREATEST, LEAST, 0);
        gives(LESS, 0, 1L << 32, 1);
    }

    static void promise05TheFirstIsWorkedFirst() {
        GraphWalker x = new GraphWalker();
        x.begin(x.two(TAKE, x.number(10), x.number(4)), true);
        x.run(1);
        Check.due("then b", x.entry(0), 2);
        x.run(2);
        Check.due("act with it", x.entry(0), 3);
        x.run(2);
        Check.due("10 - 4", x.value(), 6);
    }
}
