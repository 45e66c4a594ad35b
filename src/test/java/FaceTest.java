import java.io.IOException;
import java.lang.reflect.Field;
import java.lang.reflect.Member;
import java.lang.reflect.Method;
import java.lang.reflect.Modifier;
import java.nio.file.Files;
import java.nio.file.Path;
import java.util.ArrayList;
import java.util.Arrays;
import java.util.HashSet;
import java.util.List;
import java.util.Set;

/** The public face is that of the document and no more; the source has no word that LANGUAGE.md leaves out. */
public final class FaceTest {
    private static final String INDEX = "IndexOutOfBoundsException";
    private static final String ARGUMENT = "IllegalArgumentException";
    private static final String STATE = "IllegalStateException";
    private static final String[] FACE = {
        "int bring(int, int, int, int, int) " + ARGUMENT,
        "int change(int, int, int) " + INDEX + " " + ARGUMENT,
        "int send(int) " + INDEX,
        "int dispute(int, int) " + INDEX + " " + ARGUMENT,
        "int takeBack(int) " + INDEX,
        "int price(int, int) " + INDEX + " " + ARGUMENT,
        "int zone(int, int) " + INDEX + " " + ARGUMENT,
        "int set(int, int) " + INDEX + " " + ARGUMENT,
        "int append(int) " + ARGUMENT + " " + STATE,
        "int clearBuffer()",
        "int firstError()",
        "int run() " + ARGUMENT,
        "int keep(int) " + ARGUMENT,
        "int goBack(int) " + ARGUMENT + " " + STATE,
        "int undo() " + STATE,
        "int parcelOf(int, int) " + INDEX + " " + ARGUMENT,
        "int rate(int, int) " + ARGUMENT,
        "int count(int) " + ARGUMENT,
        "int setting(int) " + INDEX,
        "int cheapestWay(int) " + INDEX,
        "int ifBundled(int, int) " + INDEX + " " + ARGUMENT,
        "int cheapest(int) " + ARGUMENT,
        "int dearest()",
        "double savedShare()",
        "long digest()",
    };
    private static final String[] LEFT_OUT = {"import ", "package ", "->", "::", "try ", "catch", "finally", "assert ",
        "synchronized", "static {", "Double.", "Object", "protected "};

    private static final Check CHECK = new Check();

    public static void main(String[] args) throws IOException {
        CHECK.topic("face");
        int modifiers = StringRates.class.getModifiers();
        CHECK.due("public and final", Modifier.isPublic(modifiers) && Modifier.isFinal(modifiers) ? 1 : 0, 1);
        methods();
        others();
        insideNames();
        CHECK.topic("source");
        words(Files.readString(Path.of("src/main/java/StringRates.java")));
        CHECK.end();
    }

    private static void methods() {
        Set<String> want = new HashSet<>(Arrays.asList(FACE));
        for (Method method : StringRates.class.getDeclaredMethods()) {
            if (!Modifier.isPrivate(method.getModifiers()) && !want.remove(faceOf(method))) {
                CHECK.tell("not of the face: " + faceOf(method));
            }
        }
        for (String missing : want) {
            CHECK.tell("missing: " + missing);
        }
    }

    private static String faceOf(Method method) {
        List<String> parameters = new ArrayList<>();
        for (Class<?> type : method.getParameterTypes()) {
            parameters.add(type.getSimpleName());
        }
        StringBuilder face = new StringBuilder(method.getReturnType().getSimpleName() + " " + method.getName());
        face.append('(').append(String.join(", ", parameters)).append(')');
        for (Class<?> thrown : method.getExceptionTypes()) {
            face.append(' ').append(thrown.getSimpleName());
        }
        return face.toString();
    }

    private static void others() {
        CHECK.due("constructors", StringRates.class.getDeclaredConstructors().length, 1);
        CHECK.due("public constructors", StringRates.class.getConstructors().length, 1);
        for (Field field : StringRates.class.getDeclaredFields()) {
            boolean constant = field.getName().equals("NONE");
            boolean open = Modifier.isPublic(field.getModifiers());
            CHECK.due(field.getName() + " is public", open ? 1 : 0, constant ? 1 : 0);
            CHECK.due(field.getName() + " is neither private nor the constant", isPrivate(field) || constant ? 0 : 1, 0);
            CHECK.due(field.getName() + " is final", Modifier.isFinal(field.getModifiers()) ? 1 : 0, 1);
        }
    }

    private static boolean isPrivate(Member member) {
        return Modifier.isPrivate(member.getModifiers());
    }

    private static void insideNames() {
        Set<String> names = new HashSet<>();
        for (Method method : StringRates.class.getMethods()) {
            names.add(method.getName());
        }
        for (Method method : StringRates.class.getDeclaredMethods()) {
            if (isPrivate(method) && names.contains(method.getName())) {
                CHECK.tell("a private method has a name of the face: " + method.getName());
            }
        }
        for (Class<?> inside : StringRates.class.getDeclaredClasses()) {
            for (Method method : inside.getDeclaredMethods()) {
                if (names.contains(method.getName())) {
                    CHECK.tell(inside.getSimpleName() + " has a method with a name of the face: " + method.getName());
                }
            }
        }
    }

    private static void words(String source) {
        for (String word : LEFT_OUT) {
            if (source.contains(word)) {
                CHECK.tell("the language leaves out: " + word);
            }
        }
    }
}
