/** Counts and prints the answers that are not as due. */
final class Check {
    private static int wrong = 0;
    private static String part = "";

    private Check() {
    }

    interface Call {
        void make();
    }

    static void part(String name) {
        part = name;
    }

    static void due(String what, long got, long want) {
        if (got != want) {
            wrong++;
            System.out.println(part + ": " + what + " answered " + got + ", due is " + want);
        }
    }

    static void same(String what, String got, String want) {
        if (!got.equals(want)) {
            wrong++;
            System.out.println(part + ": " + what + " answered\n  " + got + "\n  due is\n  " + want);
        }
    }

    static void isTrue(String what, boolean holds) {
        due(what, holds ? 1 : 0, 1);
    }

    static void index(String what, Call call) {
        isTrue(what + " throws IndexOutOfBoundsException",
            thrown(call) == IndexOutOfBoundsException.class);
    }

    static void state(String what, Call call) {
        isTrue(what + " throws IllegalStateException", thrown(call) == IllegalStateException.class);
    }

    static void argument(String what, Call call) {
        isTrue(what + " throws IllegalArgumentException",
            thrown(call) == IllegalArgumentException.class);
    }

    private static Class<?> thrown(Call call) {
        try {
            call.make();
            return null;
        } catch (RuntimeException e) {
            return e.getClass();
        }
    }

    static void end() {
        System.out.println(wrong == 0 ? "all answers are as due" : wrong + " answers are not as due");
        if (wrong != 0) {
            System.exit(1);
        }
    }
}
