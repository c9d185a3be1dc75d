import java.lang.reflect.InvocationTargetException;
import java.lang.reflect.Method;
import java.util.ArrayList;
import java.util.Comparator;
import java.util.List;
import java.util.TreeSet;

/** Runs every case of the boundaries: each is a method that is named after its promise. */
public final class BoundaryTest {
    private static final List<Class<?>> ALL = List.of(TermCases.class, ActCases.class, RunCases.class,
        EndCases.class, RoomCases.class, AnswerCases.class, CollectCases.class);

    public static void main(String[] args) throws IllegalAccessException {
        TreeSet<String> promises = new TreeSet<>();
        int cases = 0;
        for (Class<?> some : ALL) {
            for (Method m : casesOf(some)) {
                Check.part(m.getName());
                make(m);
                promises.add(m.getName().substring(0, "promise00".length()));
                cases++;
            }
        }
        Check.part("the cases");
        Check.due("promises with a case", promises.size(), 20);
        System.out.println(cases + " cases");
        Check.end();
    }

    private static List<Method> casesOf(Class<?> some) {
        List<Method> found = new ArrayList<>();
        for (Method m : some.getDeclaredMethods()) {
            if (m.getName().matches("promise\\d\\d[A-Z].*")) {
                found.add(m);
            }
        }
        found.sort(Comparator.comparing(Method::getName));
        return found;
    }

    private static void make(Method m) throws IllegalAccessException {
        try {
            m.invoke(null);
        } catch (InvocationTargetException e) {
            Check.same("the case", "throws " + e.getCause(), "no exception");
        }
    }
}
