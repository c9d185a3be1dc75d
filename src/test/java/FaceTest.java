import java.io.IOException;
import java.lang.reflect.Constructor;
import java.lang.reflect.Field;
import java.lang.reflect.Method;
import java.lang.reflect.Modifier;
import java.nio.file.Files;
import java.nio.file.Path;
import java.util.HashSet;
import java.util.List;
import java.util.Set;
import java.util.TreeSet;
import java.util.regex.Matcher;
import java.util.regex.Pattern;

/** The face of the document, and the rules of LANGUAGE.md that the text itself can show. */
public final class FaceTest {
    private static final String INDEX = "IndexOutOfBoundsException";
    private static final String STATE = "IllegalStateException";
    private static final String ARGUMENT = "IllegalArgumentException";

    private static final List<String> FACE = List.of(
        "int number(long) " + STATE,
        "int variable(int) " + STATE + " " + ARGUMENT,
        "int one(int,int) " + INDEX + " " + STATE + " " + ARGUMENT,
        "int two(int,int,int) " + INDEX + " " + STATE + " " + ARGUMENT,
        "int choose(int,int,int) " + INDEX + " " + STATE,
        "int lacks(int) " + INDEX,
        "void begin(int,boolean) " + INDEX + " " + STATE,
        "int run(int) " + STATE + " " + ARGUMENT,
        "void into(int) " + STATE + " " + ARGUMENT,
        "int outcome()",
        "int sort()",
        "long value()",
        "int told(int) " + ARGUMENT,
        "int thing(int) " + INDEX,
        "int worked(int,int) " + INDEX + " " + ARGUMENT,
        "int ring(int) " + INDEX,
        "int entry(int) " + INDEX,
        "int collect() " + STATE,
        "int every(int) " + ARGUMENT);

    private static final List<String> BARRED = List.of("->", "::", "\\bimport\\b", "\\btry\\b",
        "\\bcatch\\b", "\\bfinally\\b", "\\bsynchronized\\b", "\\bassert\\b", "Exact\\b",
        "static\\s*\\{", "\\bgetMessage\\b", "\\bhashCode\\b", "\\btoString\\b", "\\bSystem\\.(?!arraycopy)",
        "\\bThread\\b", "\\bprotected\\b", "\\bpackage\\b", "\\[\\]\\[\\]\\[\\]", "\\bObject\\b");

    private static final Pattern DOCUMENTED =
        Pattern.compile("    public (\\w+) (\\w+)\\((.*)\\)(?: throws (.*))?;");

    public static void main(String[] args) throws IOException {
        document();
        face();
        nestedClasses();
        text();
        Check.end();
    }

    /** The list above is the document's. */
    private static void document() throws IOException {
        Check.part("the document's face");
        Set<String> found = new TreeSet<>();
        for (String line : Files.readAllLines(Path.of("../shared/DOC.md"))) {
            Matcher m = DOCUMENTED.matcher(line);
            if (m.matches()) {
                String types = m.group(3).replaceAll(" \\w+(, )?", ",").replaceAll(",$", "");
                String thrown = m.group(4) == null ? "" : " " + m.group(4).replace(",", "");
                found.add(m.group(1) + " " + m.group(2) + "(" + types + ")" + thrown);
            }
        }
        Check.same("its methods", found.toString(), new TreeSet<>(FACE).toString());
    }

    private static void face() {
        Check.part("the face");
        int ofClass = GraphWalker.class.getModifiers();
        Check.isTrue("the class is public and final",
            Modifier.isPublic(ofClass) && Modifier.isFinal(ofClass));
        Set<String> found = new TreeSet<>();
        for (Method m : GraphWalker.class.getDeclaredMethods()) {
            if (!Modifier.isPrivate(m.getModifiers())) {
                found.add(signature(m));
            }
        }
        for (String want : FACE) {
            Check.isTrue("it has " + want, found.contains(want));
        }
        Check.due("methods of the face", found.size(), FACE.size());
        int fields = 0;
        for (Field f : GraphWalker.class.getDeclaredFields()) {
            fields += Modifier.isPrivate(f.getModifiers()) ? 0 : 1;
        }
        Check.due("constants of the face", fields, 1);
        Check.due("NONE", GraphWalker.NONE, -1);
        Constructor<?>[] constructors = GraphWalker.class.getDeclaredConstructors();
        Check.due("constructors", constructors.length, 1);
        Check.due("its parameters", constructors[0].getParameterCount(), 0);
        Check.isTrue("it is public", Modifier.isPublic(constructors[0].getModifiers()));
    }

    private static String signature(Method m) {
        StringBuilder text = new StringBuilder();
        text.append(m.getReturnType().getSimpleName()).append(' ').append(m.getName()).append('(');
        for (int i = 0; i < m.getParameterCount(); i++) {
            text.append(i == 0 ? "" : ",").append(m.getParameterTypes()[i].getSimpleName());
        }
        text.append(')');
        for (Class<?> e : m.getExceptionTypes()) {
            text.append(' ').append(e.getSimpleName());
        }
        return text.toString();
    }

    private static void nestedClasses() {
        Check.part("the classes inside");
        Set<String> names = new HashSet<>();
        for (String want : FACE) {
            names.add(want.substring(want.indexOf(' ') + 1, want.indexOf('(')));
        }
        Class<?>[] inside = GraphWalker.class.getDeclaredClasses();
        Check.isTrue("twelve at most", inside.length <= 12);
        for (Class<?> c : inside) {
            int of = c.getModifiers();
            Check.isTrue(c.getSimpleName() + " is static and not public",
                Modifier.isStatic(of) && !Modifier.isPublic(of) && !Modifier.isProtected(of));
            int fields = 0;
            for (Field f : c.getDeclaredFields()) {
                fields += Modifier.isStatic(f.getModifiers()) ? 0 : 1;
            }
            Check.isTrue(c.getSimpleName() + " has some twenty fields at most", fields <= 20);
            for (Method m : c.getDeclaredMethods()) {
                Check.isTrue(m.getName() + " is no name of the face", !names.contains(m.getName()));
                Check.isTrue(m.getName() + " has seven parameters at most", m.getParameterCount() <= 7);
            }
        }
    }

    private static void text() throws IOException {
        Check.part("the text");
        String text = Files.readString(Path.of("src/main/java/GraphWalker.java"));
        String code = text.replaceAll("(?s)/\\*.*?\\*/", "").replaceAll("//[^\n]*", "")
            .replaceAll("\"[^\"\n]*\"", "\"\"");
        for (String barred : BARRED) {
            Matcher m = Pattern.compile(barred).matcher(code);
            Check.isTrue("no " + barred, !m.find());
        }
        Matcher thrown = Pattern.compile("\\bthrow\\b(?! new (" + INDEX + "|" + STATE + "|" + ARGUMENT
            + ")\\(\"\"\\);)").matcher(code);
        Check.isTrue("throw new E(\"a written text\") alone", !thrown.find());
        for (int i = 0; i < text.length(); i++) {
            if (text.charAt(i) > 126) {
                Check.isTrue("plain characters", false);
            }
        }
    }
}
