import java.lang.reflect.InvocationTargetException;
import java.lang.reflect.Method;
import java.util.Arrays;
import java.util.Map;
import java.util.TreeMap;

/**
 * Long runs of calls chosen by a counted generator (the same ones every time), each answer held
 * against Model. At most 512 calls an object, as the document says.
 */
public final class RandomRunsTest {
    private static final int RUNS = 3000;
    private static final int CALLS = 512;
    private static final int[] WILD = {-1, 0, 1, 2, 6, 7, 8, 12, 20, 120, 121, 255, 256, 4096, 4097, -2,
        Integer.MAX_VALUE, Integer.MIN_VALUE};
    // A name that stands here twice comes up twice as often.
    private static final String[] CHANGES = {"file", "add", "add", "add", "insert", "insert", "insert", "remove",
        "remove", "copy", "copy", "sign", "sign", "compare", "compare", "compare", "apply", "apply", "keep",
        "keepDelta", "keepDelta", "keepDelta", "lose", "replace", "rebuild", "cuts", "store", "store", "store",
        "release", "release", "fetch"};
    private static final String[] QUESTIONS = {"length", "byteAt", "byteAt", "same", "blocks", "weak", "weak",
        "strong", "instructions", "isCopy", "startOf", "bytesOf", "startOf", "bytesOf", "cost", "alarms", "versions",
        "brokenAt", "brokenAfter", "reason", "heldBy", "papers", "chunks", "heldBytes", "parts", "partLength", "shared"};

    private static final Expect EXPECT = new Expect();
    private static final Map<String, Integer> ANSWERED = new TreeMap<>();
    private static long seed;

    public static void main(String[] args) throws Exception {
        for (int run = 0; run < RUNS; run++) {
            seed = 1000003L * run + 17;
            run(run);
        }
        EXPECT.due("calls of the face that were tried", ANSWERED.size(), 40);
        for (String name : ANSWERED.keySet()) {
            EXPECT.due("answers of " + name + " are more than 1000", ANSWERED.get(name) > 1000, true);
        }
        EXPECT.end();
    }

    private static int below(int bound) {
        seed = seed * 6364136223846793005L + 1442695040888963407L;
        return (int) ((seed >>> 33) % bound);
    }

    private static void run(int run) throws Exception {
        RollSync x = new RollSync();
        Model model = new Model();
        int alphabet = new int[] {1, 2, 3, 8, 256}[below(5)];
        int questions = 1 + below(3);
        StringBuilder told = new StringBuilder();
        for (int call = 0; call < CALLS; call++) {
            boolean asks = below(4) < questions;
            String name = call < 3 ? "file" : asks ? QUESTIONS[below(QUESTIONS.length)] : CHANGES[below(CHANGES.length)];
            Method method = methodOf(RollSync.class, name);
            Object[] arguments = arguments(method, model, alphabet);
            String text = name + Arrays.toString(arguments);
            told.append(text).append(' ');
            String want = answer(methodOf(Model.class, name), model, arguments);
            String got = answer(method, x, arguments);
            if (!got.equals(want)) {
                EXPECT.due("run " + run + ", call " + call + ": " + text + " after " + told, got, want);
                return;
            }
            if (!got.startsWith("throws")) {
                ANSWERED.merge(name, 1, Integer::sum);
            }
        }
    }

    private static Method methodOf(Class<?> of, String name) {
        for (Method method : of.getMethods()) {
            if (method.getName().equals(name) && method.getDeclaringClass() == of) {
                return method;
            }
        }
        throw new IllegalStateException("no method " + name);
    }

    private static String answer(Method method, Object on, Object[] arguments) throws Exception {
        try {
            return String.valueOf(method.invoke(on, arguments));
        } catch (InvocationTargetException e) {
            return "throws " + Expect.told(e.getCause());
        }
    }

    private static Object[] arguments(Method method, Model model, int alphabet) {
        Object[] arguments = new Object[method.getParameterCount()];
        for (int i = 0; i < arguments.length; i++) {
            boolean wild = below(40) == 0;
            arguments[i] = wild ? WILD[below(WILD.length)] : likely(method.getName(), i, arguments, model, alphabet);
        }
        return arguments;
    }

    private static int lengthOf(Object file, Model model) {
        try {
            return model.length((Integer) file);
        } catch (IndexOutOfBoundsException e) {
            return 0;
        }
    }

    /** An argument that is mostly in its range. */
    private static int likely(String name, int i, Object[] before, Model model, int alphabet) {
        switch (name + i) {
            case "add1": return below(alphabet);
            case "add2": return below(3) == 0 ? below(256) : below(3);
            case "add3": return below(10) == 0 ? 1 + below(120) : 1 + below(12);
            case "insert1": case "remove1": return below(lengthOf(before[0], model) + 1);
            case "insert2": return below(alphabet);
            case "remove2": return below(2) == 0 ? below(4) : below(lengthOf(before[0], model) + 1);
            case "byteAt1": return below(lengthOf(before[0], model) + 1);
            case "sign0": case "blocks0": case "weak0": case "strong0": case "compare0": case "compare1":
            case "instructions0": case "isCopy0": case "startOf0": case "bytesOf0": case "cost0": case "alarms0":
            case "apply0": return below(3);
            case "sign2": return 1 + below(7);
            case "sign3": return below(2) == 0 ? 1 + below(4) : 1 + below(4096);
            case "weak1": case "strong1": return below(1 + below(25));
            case "isCopy1": case "startOf1": case "bytesOf1": return below(4);
            case "keepDelta1": return below(3) == 0 ? below(20) : Math.max(0, model.versions() - 1);
            case "keepDelta2": return 1 + below(7);
            case "lose0": case "replace0": case "rebuild0": case "brokenAt0": case "brokenAfter0": case "reason0":
            case "heldBy0": return below(model.versions() + 1);
            case "cuts0": return 1 + below(6);
            case "cuts1": return 1 + below(20);
            case "cuts2": return 1 + below(below(2) == 0 ? 4 : 64);
            case "release0": case "fetch0": case "parts0": case "partLength0": case "shared0": return below(12);
            case "partLength1": case "shared1": return below(6);
            default: return below(4);
        }
    }
}
