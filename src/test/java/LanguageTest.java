import java.lang.reflect.Constructor;
import java.lang.reflect.Field;
import java.lang.reflect.Method;
import java.lang.reflect.Modifier;
import java.nio.file.Files;
import java.nio.file.Path;
import java.util.TreeSet;

/** The rules of LANGUAGE.md that can be looked at by a program: the face, words that are not used, lengths. */
public final class LanguageTest {
    private static final String[] NOT_USED = {"throw", "try", "catch", "synchronized", "assert", "import", "package",
        "Object", "System.out", "Random", "Thread", "equals", "hashCode", "toString", "Exact", "->", "::", "@", "var ", "lambda"};
    private static final String[] FACE = {
        "int write(int)", "int erase()", "int fault()", "int parish()", "int field(int,int)", "int letter(int,int)",
        "int gate(int,int)", "int word(int,int)", "int as(int,int)", "int through(int)", "int read()", "int rain(int)",
        "int birds()", "int plough(int)", "int day()", "int undo()", "int keep(int)", "int back(int)", "int far(int,int)",
        "int whole(int)", "int before(int)", "int feast(int)", "int least(int)", "int could(int,int)",
        "int which(int,int)", "int seen(int,int,int)", "int forget()", "int kinds(int)", "int odds(int,int,int,int)",
        "int shelf(int,int,int)", "int lay(int,int,int,int)", "long look(int,int)", "int copy(int,int,int,int,int)",
        "int drop(int)", "int list(int,int,int)", "int count(int)"};

    private static final TreeSet<String> FACE_NAMES = new TreeSet<>();

    public static void main(String[] args) throws Exception {
        face();
        insideClasses();
        fieldsOf(HedgeReader.class);
        for (Class<?> c : HedgeReader.class.getDeclaredClasses()) {
            fieldsOf(c);
        }
        source();
        Checks.end("LanguageTest");
    }

    private static void face() {
        TreeSet<String> want = new TreeSet<>(java.util.List.of(FACE));
        TreeSet<String> have = new TreeSet<>();
        for (Method m : HedgeReader.class.getDeclaredMethods()) {
            if (Modifier.isPublic(m.getModifiers())) {
                have.add(shapeOf(m));
                FACE_NAMES.add(m.getName());
            } else {
                Checks.isTrue(m + " is private", Modifier.isPrivate(m.getModifiers()));
            }
        }
        Checks.isTrue("face " + have, have.equals(want));
        for (Method m : HedgeReader.class.getDeclaredMethods()) {
            Checks.isTrue(m + " bears no public name",
                Modifier.isPublic(m.getModifiers()) || !FACE_NAMES.contains(m.getName()));
        }
        TreeSet<String> constants = new TreeSet<>();
        for (Field f : HedgeReader.class.getDeclaredFields()) {
            if (Modifier.isPublic(f.getModifiers())) {
                constants.add(f.getName());
            } else {
                Checks.isTrue(f + " is private", Modifier.isPrivate(f.getModifiers()));
            }
        }
        Checks.isTrue("constants " + constants, constants.equals(new TreeSet<>(java.util.List.of(
            "NONE", "UNKNOWN", "OUTSIDE", "NOT", "FULL", "NULL", "CAST", "INDEX", "SIZE", "STORE"))));
        Constructor<?>[] made = HedgeReader.class.getDeclaredConstructors();
        Checks.due("constructors", made.length, 1);
        Checks.isTrue("public and final", Modifier.isPublic(made[0].getModifiers())
            && Modifier.isFinal(HedgeReader.class.getModifiers()) && Modifier.isPublic(HedgeReader.class.getModifiers()));
    }

    private static String shapeOf(Method m) {
        StringBuilder shape = new StringBuilder(m.getReturnType().getName() + " " + m.getName() + "(");
        for (int i = 0; i < m.getParameterCount(); i++) {
            shape.append(i == 0 ? "" : ",").append(m.getParameterTypes()[i].getName());
        }
        return shape.append(")").toString();
    }

    private static void insideClasses() {
        Class<?>[] inside = HedgeReader.class.getDeclaredClasses();
        Checks.isTrue("classes: " + inside.length, inside.length <= 11);
        for (Class<?> c : inside) {
            Checks.isTrue(c + " is static", Modifier.isStatic(c.getModifiers()));
            int fields = 0;
            for (Field f : c.getDeclaredFields()) {
                fields += Modifier.isStatic(f.getModifiers()) ? 0 : 1;
            }
            Checks.isTrue(c + " has " + fields + " fields", fields <= 20);
            for (Method m : c.getDeclaredMethods()) {
                Checks.isTrue(m + " bears no public name", !FACE_NAMES.contains(m.getName()));
                Checks.isTrue(m + " takes at most 7", m.getParameterCount() <= 7);
            }
        }
    }

    /** Static ones are constants; others hold numbers, booleans, own objects, or rows of these. */
    private static void fieldsOf(Class<?> owner) {
        for (Field f : owner.getDeclaredFields()) {
            Class<?> type = f.getType();
            if (Modifier.isStatic(f.getModifiers())) {
                Checks.isTrue(f + " is a constant", Modifier.isFinal(f.getModifiers()) && type.isPrimitive());
                continue;
            }
            int rows = 0;
            while (type.isArray()) {
                type = type.getComponentType();
                rows++;
            }
            boolean own = type.getName().startsWith("HedgeReader$");
            Checks.isTrue(f + " is of a type that may stand", type.isPrimitive() && rows <= 2 || own && rows <= 1);
        }
    }

    private static void source() throws Exception {
        String source = Files.readString(Path.of("src/main/java/HedgeReader.java"));
        String code = source.replaceAll("(?s)/\\*.*?\\*/", "").replaceAll("//[^\n]*", "");
        Checks.isTrue("signs are 1 to 127", source.chars().allMatch(c -> c >= 1 && c <= 127));
        for (String word : NOT_USED) {
            Checks.isTrue("not used: " + word, !code.contains(word));
        }
        int started = 0;
        String[] lines = source.split("\n");
        for (int i = 0; i < lines.length; i++) {
            if (lines[i].matches("\\s+(private |public |static |final )*[\\w\\[\\]]+ \\w+\\(.*\\{") && !lines[i].contains(" class ")) {
                started = i;
            }
            if (lines[i].matches("    (    )?\\}")) {
                Checks.isTrue("method of line " + (started + 1) + " is short", started == 0 || i - started < 60);
                started = 0;
            }
        }
    }
}
