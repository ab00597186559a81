import java.lang.reflect.Constructor;
import java.lang.reflect.Field;
import java.lang.reflect.Method;
import java.lang.reflect.Modifier;
import java.nio.file.Files;
import java.nio.file.Path;
import java.util.ArrayList;
import java.util.Collections;
import java.util.List;
import java.util.regex.Pattern;

/** The class has the face of the document and no other member that can be seen; its words are those of LANGUAGE.md. */
public final class FaceTest {
    private static final String INDEX = "IndexOutOfBoundsException";
    private static final String ARGUMENT = INDEX + " IllegalArgumentException";
    private static final String STATE = ARGUMENT + " IllegalStateException";
    private static final String[] FACE = {
        "int allowance(int) " + INDEX,
        "int ask(int int) " + STATE,
        "int atLeastUpTo(int int) " + INDEX,
        "int atMostUpTo(int int) " + INDEX,
        "int begin(int int) " + ARGUMENT,
        "int bound(int) " + INDEX,
        "int count(int) " + INDEX,
        "int highestRank(int int) " + INDEX,
        "int lowestRank(int int) " + INDEX,
        "int marks(int) " + INDEX,
        "int middle(int) " + INDEX + " IllegalStateException",
        "int middleByHeaps(int) " + INDEX + " IllegalStateException",
        "int off(int int) " + STATE,
        "int pour(int int) " + STATE,
        "int reallyOff(int int) " + STATE,
        "int reallyUpTo(int int) " + INDEX,
        "int show(int int) " + STATE,
        "int showRow(int int int int) " + STATE,
        "int thinOut(int) " + INDEX,
        "int value(int int) " + INDEX,
        "int widest(int) " + INDEX,
        "double part(int) " + INDEX,
    };
    private static final String[] NOT_IN_THE_SOURCE = {
        "\\bimport\\b", "\\bpackage\\b", "\\btry\\b", "\\bcatch\\b", "\\bfinally\\b", "->", "::", "\\bassert\\b",
        "\\bsynchronized\\b", "\\bfloat\\b", "\\bhashCode\\b", "\\btoString\\b", "\\bnull\\b", "\\bMath\\.\\w+Exact\\b",
        "\\bSystem\\.(?!arraycopy\\b)", "[^\\x00-\\x7f]",
    };

    public static void main(String[] args) throws Exception {
        checkMethods();
        checkConstructorsAndFields();
        checkNamesInside();
        checkSource(Files.readString(Path.of("src/main/java/QueueMiddles.java")));
        Checks.finish();
    }

    private static void checkMethods() {
        List<String> seen = new ArrayList<>();
        for (Method m : QueueMiddles.class.getDeclaredMethods()) {
            if (!Modifier.isPrivate(m.getModifiers())) {
                seen.add(m.getReturnType() + " " + m.getName() + "(" + names(m.getParameterTypes()) + ") "
                        + names(m.getExceptionTypes()));
            }
        }
        List<String> want = new ArrayList<>(List.of(FACE));
        Collections.sort(seen);
        Collections.sort(want);
        Checks.due("the methods", want, () -> seen);
    }

    private static void checkConstructorsAndFields() {
        Checks.due("the class", "public final", () -> Modifier.toString(QueueMiddles.class.getModifiers()));
        Constructor<?>[] made = QueueMiddles.class.getDeclaredConstructors();
        Checks.due("how many constructors", 1, () -> made.length);
        Checks.due("the constructor", "public QueueMiddles()", () -> made[0].toString());
        for (Field f : QueueMiddles.class.getDeclaredFields()) {
            Checks.due("field " + f.getName() + " is private", true, () -> Modifier.isPrivate(f.getModifiers()));
        }
    }

    private static void checkNamesInside() {
        List<String> face = new ArrayList<>();
        for (Method m : QueueMiddles.class.getMethods()) {
            face.add(m.getName());
        }
        for (Method m : QueueMiddles.class.getDeclaredMethods()) {
            boolean hidden = Modifier.isPrivate(m.getModifiers());
            Checks.due("private " + m.getName(), false, () -> hidden && face.contains(m.getName()));
        }
        for (Class<?> inside : QueueMiddles.class.getDeclaredClasses()) {
            for (Method m : inside.getDeclaredMethods()) {
                Checks.due(inside.getSimpleName() + "." + m.getName(), false, () -> face.contains(m.getName()));
            }
        }
    }

    private static void checkSource(String source) {
        String code = Pattern.compile("/\\*.*?\\*/|//[^\n]*", Pattern.DOTALL).matcher(source).replaceAll("");
        for (String word : NOT_IN_THE_SOURCE) {
            Checks.due("the source holds " + word, false, () -> Pattern.compile(word).matcher(code).find());
        }
    }

    private static String names(Class<?>[] types) {
        List<String> names = new ArrayList<>();
        for (Class<?> type : types) {
            names.add(type.getSimpleName());
        }
        return String.join(" ", names);
    }
}
