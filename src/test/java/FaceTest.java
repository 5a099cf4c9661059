import java.lang.reflect.Field;
import java.lang.reflect.Method;
import java.lang.reflect.Modifier;
import java.util.ArrayList;
import java.util.List;
import java.util.TreeSet;

/** The face of the class is the document's and nothing else; the constants of promises 28 and 30. */
public final class FaceTest {
    private static final String INDEX = " IndexOutOfBoundsException";
    private static final String ARGUMENT = " IllegalArgumentException";
    private static final String STATE = " IllegalStateException";
    private static final String[] FACE = {
        "int file 0" + STATE, "int add 4" + INDEX + ARGUMENT + STATE, "int insert 3" + INDEX + ARGUMENT + STATE,
        "int remove 3" + INDEX + ARGUMENT, "void copy 2" + INDEX, "int length 1" + INDEX, "int byteAt 2" + INDEX,
        "boolean same 2" + INDEX, "int sign 4" + INDEX + ARGUMENT, "int blocks 1" + INDEX, "int weak 2" + INDEX,
        "long strong 2" + INDEX, "int compare 3" + INDEX + STATE, "int instructions 1" + INDEX,
        "boolean isCopy 2" + INDEX, "int startOf 2" + INDEX, "int bytesOf 2" + INDEX, "int cost 1" + INDEX,
        "int alarms 1" + INDEX, "int apply 3" + INDEX + STATE, "int keep 1" + INDEX + STATE,
        "int keepDelta 3" + INDEX + ARGUMENT + STATE, "int lose 1" + INDEX, "void replace 2" + INDEX,
        "int rebuild 2" + INDEX + STATE, "int versions 0", "int brokenAt 1" + INDEX, "int brokenAfter 1" + INDEX,
        "int reason 1" + INDEX, "int heldBy 1" + INDEX, "void cuts 3" + ARGUMENT, "int store 1" + INDEX + STATE,
        "int release 1" + INDEX, "int fetch 2" + INDEX, "int papers 0", "int chunks 0", "int heldBytes 0",
        "int parts 1" + INDEX, "int partLength 2" + INDEX, "int shared 2" + INDEX,
    };
    private static final Expect EXPECT = new Expect();

    public static void main(String[] args) {
        EXPECT.due("NONE", RollSync.NONE, -1);
        EXPECT.due("LOST", RollSync.LOST, 1);
        EXPECT.due("BEYOND", RollSync.BEYOND, 2);
        methods();
        fields();
        EXPECT.due("the class is public and final", Modifier.toString(RollSync.class.getModifiers()), "public final");
        EXPECT.due("constructors", RollSync.class.getDeclaredConstructors().length, 1);
        EXPECT.due("public constructors", RollSync.class.getConstructors().length, 1);
        EXPECT.end();
    }

    private static void methods() {
        TreeSet<String> shown = new TreeSet<>();
        TreeSet<String> names = new TreeSet<>();
        List<Method> hidden = new ArrayList<>();
        for (Method method : RollSync.class.getDeclaredMethods()) {
            if (Modifier.isPrivate(method.getModifiers())) {
                hidden.add(method);
            } else {
                shown.add(told(method));
                names.add(method.getName());
                EXPECT.due("modifiers of " + method.getName(), Modifier.toString(method.getModifiers()), "public");
            }
        }
        EXPECT.due("methods", shown.toString(), new TreeSet<>(List.of(FACE)).toString());
        for (Method method : hidden) {
            EXPECT.due("a private " + method.getName() + " bears a public name", names.contains(method.getName()), false);
        }
    }

    private static String told(Method method) {
        StringBuilder text = new StringBuilder();
        text.append(method.getReturnType().getName()).append(' ').append(method.getName());
        text.append(' ').append(method.getParameterCount());
        for (Class<?> thrown : method.getExceptionTypes()) {
            text.append(' ').append(thrown.getSimpleName());
        }
        for (Class<?> parameter : method.getParameterTypes()) {
            EXPECT.due("a parameter of " + method.getName(), parameter.getName(), "int");
        }
        return text.toString();
    }

    private static void fields() {
        TreeSet<String> shown = new TreeSet<>();
        for (Field field : RollSync.class.getDeclaredFields()) {
            if (!Modifier.isPrivate(field.getModifiers())) {
                shown.add(Modifier.toString(field.getModifiers()) + " " + field.getType() + " " + field.getName());
            }
            boolean changeable = Modifier.isStatic(field.getModifiers()) && !Modifier.isFinal(field.getModifiers());
            EXPECT.due("static " + field.getName() + " is not final", changeable, false);
        }
        EXPECT.due("constants", shown.toString(), "[public static final int BEYOND, "
                + "public static final int LOST, public static final int NONE]");
    }
}
