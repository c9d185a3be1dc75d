/** What an object answers when it is asked, as a text: alike texts mean that nothing was changed. */
final class Seen {
    private static final int MANY = 4;

    private Seen() {
    }

    interface Ask {
        long of();
    }

    static String answer(Ask ask) {
        try {
            return Long.toString(ask.of());
        } catch (RuntimeException e) {
            return "throws." + e.getClass().getSimpleName();
        }
    }

    static String all(GraphWalker x) {
        return end(x) + rest(x);
    }

    /** What a step changes that ends the run and does nothing. */
    static String end(GraphWalker x) {
        StringBuilder text = new StringBuilder();
        text.append("outcome ").append(x.outcome()).append(" sort ").append(x.sort());
        text.append(" value ").append(x.value()).append(" steps ").append(x.told(0)).append(" ring");
        for (int k = 0; k < MANY; k++) {
            int at = k;
            text.append(' ').append(answer(() -> x.ring(at)));
        }
        return text.append('\n').toString();
    }

    static String rest(GraphWalker x) {
        StringBuilder text = new StringBuilder("told");
        for (int what = 1; what < 8; what++) {
            text.append(' ').append(x.told(what));
        }
        things(x, text);
        entries(x, text);
        terms(x, text);
        int pace = x.every(0);
        x.every(pace);
        return text.append(" every ").append(pace).append('\n').toString();
    }

    /** An object is good for 512 calls, so of many things the first and the last are looked at. */
    private static boolean isLookedAt(int k, int count) {
        return k < MANY || k >= count - MANY;
    }

    private static void things(GraphWalker x, StringBuilder text) {
        int made = Math.max(x.told(1), 0);
        for (int k = 0; k < made; k++) {
            if (isLookedAt(k, made)) {
                text.append(" thing ").append(k).append(": ").append(x.thing(k));
                text.append(' ').append(x.worked(k, 0)).append(' ').append(x.worked(k, 1));
                text.append(' ').append(x.worked(k, 2));
            }
        }
        text.append(' ').append(answer(() -> x.thing(made)));
    }

    private static void entries(GraphWalker x, StringBuilder text) {
        int length = Math.max(x.told(3), 0);
        text.append(" row");
        for (int k = 0; k < length; k++) {
            if (isLookedAt(k, length)) {
                text.append(' ').append(x.entry(k));
            }
        }
        text.append(' ').append(answer(() -> x.entry(length)));
    }

    private static void terms(GraphWalker x, StringBuilder text) {
        int count = termsOf(x);
        text.append(" terms ").append(count).append(" lacks");
        for (int k = Math.max(count - MANY, 0); k < count; k++) {
            text.append(' ').append(x.lacks(k));
        }
    }

    private static int termsOf(GraphWalker x) {
        int low = 0;
        int high = 300;
        while (low < high) {
            int middle = (low + high) / 2;
            if (answer(() -> x.lacks(middle)).startsWith("throws")) {
                high = middle;
            } else {
                low = middle + 1;
            }
        }
        return low;
    }
}
