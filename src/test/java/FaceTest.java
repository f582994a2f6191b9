import java.io.IOException;
import java.lang.reflect.Constructor;
import java.lang.reflect.Field;
import java.lang.reflect.Method;
import java.lang.reflect.Modifier;
import java.nio.file.Files;
import java.nio.file.Path;
import java.util.Set;
import java.util.TreeSet;

/** The public face, as the document writes it, and no more. */
public final class FaceTest {
    private static final Check CHECK = new Check();
    private static final String METHODS = "ahead1 as2 attempt0 back1 behind3 bind4 count1 drop1 enter5 erase0 fault0 "
        + "forget0 give2 godfathers2 holds2 idle4 just1 keep1 keeps1 kinds0 order3 page3 pages2 parish0 peace0 person2 "
        + "promise2 read4 register2 same4 seen3 shorten1 stuck0 undo0 write1 year1";
    private static final String CONSTANTS = "CAST=-16 EMPTY=-15 FULL=-5 INDEX=-12 LINE=-14 NONE=-1 NOT=-4 NULL=-11 "
        + "OUTSIDE=-3 SIZE=-17 UNKNOWN=-2 VOID=-13";

    public static void main(String[] args) throws Exception {
        Class<?> face = PromiseNames.class;
        CHECK.holds("the class is public and final",
            Modifier.isPublic(face.getModifiers()) && Modifier.isFinal(face.getModifiers()));
        methods(face);
        constants(face);
        constructor(face);
        for (Class<?> inside : face.getDeclaredClasses()) {
            CHECK.holds(inside + " is static and not public",
                Modifier.isStatic(inside.getModifiers()) && !Modifier.isPublic(inside.getModifiers()));
            namesInside(face, inside);
        }
        faceAsWritten();
        CHECK.end();
    }

    private static void methods(Class<?> face) {
        Set<String> found = new TreeSet<>();
        for (Method m : face.getDeclaredMethods()) {
            if (!Modifier.isPrivate(m.getModifiers())) {
                found.add(m.getName() + m.getParameterCount());
                CHECK.holds(m + " is public, of int", Modifier.isPublic(m.getModifiers())
                    && !Modifier.isStatic(m.getModifiers()) && m.getReturnType() == int.class);
                for (Class<?> type : m.getParameterTypes()) {
                    CHECK.holds(m + " takes int", type == int.class);
                }
            }
        }
        CHECK.holds("methods: " + found, String.join(" ", found).equals(METHODS));
        for (Method m : face.getDeclaredMethods()) {
            CHECK.holds(m + " bears no public name", !Modifier.isPrivate(m.getModifiers()) || !isPublicName(face, m.getName()));
        }
    }

    private static void namesInside(Class<?> face, Class<?> inside) {
        for (Method m : inside.getDeclaredMethods()) {
            CHECK.holds(m + " bears no public name", !isPublicName(face, m.getName()));
        }
    }

    private static boolean isPublicName(Class<?> face, String name) {
        for (Method m : face.getDeclaredMethods()) {
            if (Modifier.isPublic(m.getModifiers()) && m.getName().equals(name)) {
                return true;
            }
        }
        return false;
    }

    private static void constants(Class<?> face) throws IllegalAccessException {
        Set<String> found = new TreeSet<>();
        for (Field f : face.getDeclaredFields()) {
            if (!Modifier.isPrivate(f.getModifiers())) {
                CHECK.holds(f + " is a constant", f.toString().startsWith("public static final int "));
                found.add(f.getName() + "=" + f.getInt(null));
            }
        }
        CHECK.holds("constants: " + found, String.join(" ", found).equals(CONSTANTS));
    }

    private static void constructor(Class<?> face) {
        Constructor<?>[] all = face.getDeclaredConstructors();
        CHECK.holds("one public constructor, of nothing",
            all.length == 1 && Modifier.isPublic(all[0].getModifiers()) && all[0].getParameterCount() == 0);
    }

    /** Every line of the document's face stands so in the source. The tests run in the project's root. */
    private static void faceAsWritten() throws IOException {
        String document = Files.readString(Path.of("../shared/DOC.md"));
        String source = Files.readString(Path.of("src/main/java/PromiseNames.java"));
        int begin = document.indexOf("```java\n") + 8;
        for (String line : document.substring(begin, document.indexOf("```", begin)).split("\n")) {
            String due = line.endsWith(");") ? line.substring(0, line.length() - 1) + " {" : line;
            CHECK.holds("the source has the line: " + due, source.contains(due + "\n"));
        }
    }
}
