import java.io.DataInputStream;
import java.io.IOException;
import java.lang.reflect.Executable;
import java.lang.reflect.Field;
import java.lang.reflect.Modifier;
import java.nio.file.Files;
import java.nio.file.Path;
import java.util.ArrayList;
import java.util.Arrays;
import java.util.List;
import java.util.Set;

/** What LANGUAGE.md asks of the form: what the compiled class calls (4, 6), static fields (5), lengths (11). */
public final class RulesTest {
    private static final String OWN = "QueueMiddles";
    private static final Set<String> EXCEPTIONS = Set.of("java/lang/IndexOutOfBoundsException",
            "java/lang/IllegalArgumentException", "java/lang/IllegalStateException");
    private static final Set<String> CALLED = Set.of("java/lang/Object.<init>()V", "java/lang/Math.max(II)I",
            "java/lang/System.arraycopy(Ljava/lang/Object;ILjava/lang/Object;II)V");
    private static final Set<Class<?>> CONSTANTS =
            Set.of(int.class, long.class, boolean.class, char.class, String.class);
    private static final Set<String> OF_OBJECT = Set.of("equals", "hashCode", "toString");
    private static final int JAVA_17 = 61;
    private static final int LONGEST_METHOD = 60;
    private static final int LONGEST_LINE = 120;
    private static final int MOST_PARAMETERS = 7;
    private static final int MOST_CLASSES = 12;
    private static final int MOST_FIELDS = 20;

    public static void main(String[] args) throws IOException {
        List<Class<?>> classes = new ArrayList<>();
        gather(QueueMiddles.class, classes);
        Checks.due("at most twelve classes", true, () -> classes.size() <= MOST_CLASSES);
        for (Class<?> one : classes) {
            checkFields(one);
            checkMethods(one);
            checkModifiers(one);
            new ClassFile(one).check();
        }
        checkLines(Files.readAllLines(Path.of("src/main/java/QueueMiddles.java")));
        Checks.finish();
    }

    private static void gather(Class<?> one, List<Class<?>> classes) {
        classes.add(one);
        for (Class<?> inside : one.getDeclaredClasses()) {
            gather(inside, classes);
        }
    }

    private static void checkFields(Class<?> one) {
        int fields = 0;
        for (Field field : one.getDeclaredFields()) {
            String name = one.getName() + "." + field.getName();
            boolean constant = Modifier.isStatic(field.getModifiers());
            Checks.due(name + ", final if static", true, () -> !constant || Modifier.isFinal(field.getModifiers()));
            Checks.due(name + ", a constant if static", true, () -> !constant || CONSTANTS.contains(field.getType()));
            fields += constant ? 0 : 1;
        }
        int many = fields;
        Checks.due(one.getName() + ", at most twenty fields", true, () -> many <= MOST_FIELDS);
    }

    private static void checkMethods(Class<?> one) {
        List<Executable> all = new ArrayList<>(List.of(one.getDeclaredMethods()));
        all.addAll(List.of(one.getDeclaredConstructors()));
        for (Executable each : all) {
            String name = one.getName() + "." + each.getName();
            Checks.due(name + ", parameters", true, () -> each.getParameterCount() <= MOST_PARAMETERS);
            Checks.due(name + ", one of Object", false, () -> OF_OBJECT.contains(each.getName()));
            Checks.due(name + ", synchronized", false, () -> Modifier.isSynchronized(each.getModifiers()));
        }
    }

    private static void checkModifiers(Class<?> one) {
        if (one != QueueMiddles.class) {
            int modifiers = one.getModifiers();
            Checks.due(one.getName() + " is static", true, () -> Modifier.isStatic(modifiers));
            Checks.due(one.getName() + " is seen outside", false,
                    () -> Modifier.isPublic(modifiers) || Modifier.isProtected(modifiers));
        }
    }

    /** A method opens with a line that has a bracket and ends with {, and closes at the same distance from the left. */
    private static void checkLines(List<String> lines) {
        for (int i = 0; i < lines.size(); i++) {
            String line = lines.get(i);
            int number = i + 1;
            Checks.due("line " + number + " is not too long", true, () -> line.length() <= LONGEST_LINE);
            int left = line.length() - line.stripLeading().length();
            if (line.endsWith("{") && line.contains(")") && (left == 4 || left == 8)) {
                int close = lines.subList(i, lines.size()).indexOf(" ".repeat(left) + "}");
                Checks.due("method at line " + number + " ends", true, () -> close > 0);
                Checks.due("method at line " + number + " is short", true, () -> close <= LONGEST_METHOD);
            }
        }
    }

    /** The constants of a compiled class: whatever it names, calls or makes stands among them. */
    private static final class ClassFile {
        private static final int UTF8 = 1;
        private static final int CLASS = 7;
        private static final int METHOD = 10;
        private static final int INTERFACE_METHOD = 11;
        private static final int NAME_AND_TYPE = 12;

        private final Class<?> one;
        private int version;
        private int[] kinds;
        private String[] texts;
        private int[][] parts;

        ClassFile(Class<?> one) throws IOException {
            this.one = one;
            try (DataInputStream in = new DataInputStream(one.getResourceAsStream(one.getName() + ".class"))) {
                in.skipBytes(6);
                version = in.readUnsignedShort();
                read(in, in.readUnsignedShort());
            }
        }

        private void read(DataInputStream in, int many) throws IOException {
            kinds = new int[many];
            texts = new String[many];
            parts = new int[many][];
            for (int i = 1; i < many; i++) {
                kinds[i] = in.readUnsignedByte();
                switch (kinds[i]) {
                    case UTF8 -> texts[i] = in.readUTF();
                    case 3, 4 -> in.skipBytes(4);
                    case 5, 6 -> {
                        in.skipBytes(8);
                        i++;
                    }
                    case 9, METHOD, INTERFACE_METHOD, NAME_AND_TYPE, 17, 18 ->
                        parts[i] = new int[] {in.readUnsignedShort(), in.readUnsignedShort()};
                    case 15 -> in.skipBytes(3);
                    default -> parts[i] = new int[] {in.readUnsignedShort()};
                }
            }
        }

        void check() {
            Checks.due(one.getName() + ", compiled for", JAVA_17, () -> version);
            int calls = 0;
            for (int i = 1; i < kinds.length; i++) {
                int constant = i;
                if (kinds[i] == CLASS) {
                    String name = className(i);
                    Checks.due(one.getName() + " names " + name, true, () -> isAllowed(name));
                } else if (kinds[i] == METHOD || kinds[i] == INTERFACE_METHOD) {
                    String called = called(i);
                    String owner = className(parts[i][0]);
                    Checks.due(one.getName() + " calls " + called, true, () -> isAllowedCall(owner, called));
                    calls++;
                } else if (kinds[i] >= 15) {
                    Checks.due(one.getName() + " holds a constant of kind", "none from 15", () -> kinds[constant]);
                }
            }
            int many = calls;
            Checks.due(one.getName() + " calls something", true, () -> many > 0);
            Checks.due(one.getName() + " has a static block", false, () -> Arrays.asList(texts).contains("<clinit>"));
        }

        private String className(int constant) {
            return texts[parts[constant][0]];
        }

        private String called(int constant) {
            int[] signature = parts[parts[constant][1]];
            return className(parts[constant][0]) + "." + texts[signature[0]] + texts[signature[1]];
        }

        private static boolean isOwn(String name) {
            return name.equals(OWN) || name.startsWith(OWN + "$");
        }

        private static boolean isAllowed(String name) {
            return isOwn(name) || name.startsWith("[") || EXCEPTIONS.contains(name)
                    || CALLED.stream().anyMatch(call -> call.startsWith(name + "."));
        }

        private static boolean isAllowedCall(String owner, String called) {
            return isOwn(owner) || CALLED.contains(called)
                    || EXCEPTIONS.contains(owner) && called.equals(owner + ".<init>(Ljava/lang/String;)V");
        }
    }
}
