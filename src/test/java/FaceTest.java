import java.io.IOException;
import java.lang.reflect.Field;
import java.lang.reflect.Method;
import java.lang.reflect.Modifier;
import java.nio.file.Files;
import java.nio.file.Path;
import java.util.Set;
import java.util.TreeSet;

/** The public face: its constants, constructor and methods, and none beside them. */
public final class FaceTest {
    private static final String[] METHODS = {"write 3", "fill 2", "anew 1", "ask 2", "fail 3", "mend 2", "rate 2",
        "days 1", "set 2", "cell 3", "guard 3", "row 2", "table 2", "wrongIn 1", "rightFor 1", "safeAge 0", "worst 1",
        "mean 0", "share 0", "count 1", "undo 0", "type 1", "clearText 0", "fault 1", "play 0"};

    /** Each heading, and the methods that stand behind it, ahead of the next one. */
    static final String[][] HEADINGS = {
        {"writing", "write", "fill", "anew", "ask"},
        {"guards, days", "fail", "mend", "rate", "days", "set"},
        {"what there is", "cell", "guard", "row", "table"},
        {"what would be", "wrongIn", "rightFor", "safeAge", "worst", "mean", "share", "count", "undo"},
        {"texts", "type", "clearText", "fault", "play"}};

    public static void main(String[] args) throws IOException {
        Due.is("INVALID_ARGUMENT", DriftingLevels.INVALID_ARGUMENT, -1000001);
        Due.is("NOT_POSSIBLE", DriftingLevels.NOT_POSSIBLE, -1000002);
        Due.is("LIMIT_REACHED", DriftingLevels.LIMIT_REACHED, -1000003);
        Due.is("NOT_FOUND", DriftingLevels.NOT_FOUND, -1000004);
        Class<?> face = DriftingLevels.class;
        Due.is("public and final", face.getModifiers(), Modifier.PUBLIC | Modifier.FINAL);
        Due.is("constructors", face.getDeclaredConstructors().length, 1);
        Due.is("parameters of it", face.getDeclaredConstructors()[0].getParameterCount(), 0);
        methods(face);
        headings(Files.readString(Path.of(System.getProperty("source"))));
        fields(face);
        for (Class<?> inside : face.getDeclaredClasses()) {
            Due.is(inside + " is static", Modifier.isStatic(inside.getModifiers()) ? 1 : 0, 1);
            Due.is(inside + " is not public", Modifier.isPublic(inside.getModifiers()) ? 1 : 0, 0);
            noPublicNames(inside);
        }
        Due.end();
    }

    private static void methods(Class<?> face) {
        Set<String> found = new TreeSet<>();
        for (Method method : face.getDeclaredMethods()) {
            if (Modifier.isPublic(method.getModifiers())) {
                found.add(method.getName() + " " + method.getParameterCount());
                Due.is(method + " answers an int", method.getReturnType() == int.class ? 1 : 0, 1);
                Due.is(method + " belongs to an object", Modifier.isStatic(method.getModifiers()) ? 1 : 0, 0);
            } else {
                Due.is(method + " is private", Modifier.isPrivate(method.getModifiers()) ? 1 : 0, 1);
                Due.is(method + " bears a public name", isPublicName(method) ? 1 : 0, 0);
            }
        }
        Due.is("methods of the face", found.equals(new TreeSet<>(Set.of(METHODS))) ? 1 : 0, 1);
    }

    private static void headings(String source) {
        int at = 0;
        for (String[] heading : HEADINGS) {
            for (int i = 0; i < heading.length; i++) {
                int next = source.indexOf(i == 0 ? "\n    // ---- " + heading[0] + "\n" : "    public int " + heading[i] + "(");
                Due.is(heading[i] + " stands behind what is ahead of it", next > at ? 1 : 0, 1);
                at = next;
            }
        }
    }

    private static void fields(Class<?> face) {
        int constants = 0;
        for (Field field : face.getDeclaredFields()) {
            if (Modifier.isPublic(field.getModifiers())) {
                constants++;
                Due.is(field + " is a constant", field.getModifiers(), Modifier.PUBLIC | Modifier.STATIC | Modifier.FINAL);
            } else {
                Due.is(field + " is private", Modifier.isPrivate(field.getModifiers()) ? 1 : 0, 1);
            }
            boolean isState = Modifier.isStatic(field.getModifiers()) && !Modifier.isFinal(field.getModifiers());
            Due.is(field + " is static state", isState ? 1 : 0, 0);
        }
        Due.is("public constants", constants, 4);
    }

    private static void noPublicNames(Class<?> inside) {
        for (Method method : inside.getDeclaredMethods()) {
            Due.is(method + " bears a public name", isPublicName(method) ? 1 : 0, 0);
        }
    }

    private static boolean isPublicName(Method method) {
        for (String name : METHODS) {
            if (name.substring(0, name.indexOf(' ')).equals(method.getName())) {
                return true;
            }
        }
        return false;
    }
}
