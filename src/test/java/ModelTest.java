import java.lang.reflect.InvocationTargetException;
import java.lang.reflect.Method;
import java.util.ArrayList;
import java.util.Arrays;
import java.util.Comparator;
import java.util.List;
import java.util.Random;

/** Random runs of 512 calls, with fixed seeds, against the model of the document. */
public final class ModelTest {
    private static final int RUNS = 4000;
    private static final int CALLS = 512;
    // A run before, 60 characters, the run of them and three queries.
    private static final int MOST_TYPED = 65;
    private static final int[] ODD = {Integer.MIN_VALUE, -1, 0, 16, 40, 41, 99, 100, 199, 200,
        Integer.MAX_VALUE};
    private static final String[] CHANGES = {"addPerformer", "payFine", "whisper", "cueMouth",
        "cueProp", "cueHush", "cancelCue", "moveCue", "setLimit", "advance", "turnAct", "undo"};

    private static final Check check = new Check();

    private final Random random;
    private final SilentOpera opera = new SilentOpera();
    private final Model model = new Model();
    private final String name;
    private final boolean isNarrow;
    private int now = 0;
    private int calls = 0;

    private ModelTest(int seed) {
        random = new Random(seed);
        name = "seed " + seed;
        isNarrow = random.nextBoolean();
    }

    public static void main(String[] args) {
        for (int seed = 0; seed < RUNS; seed++) {
            new ModelTest(seed).run(methods());
        }
        check.end();
    }

    private static List<Method> methods() {
        List<Method> methods = new ArrayList<>(Arrays.asList(SilentOpera.class.getDeclaredMethods()));
        methods.removeIf(method -> !java.lang.reflect.Modifier.isPublic(method.getModifiers()));
        methods.sort(Comparator.comparing(Method::getName));
        return methods;
    }

    private void run(List<Method> methods) {
        int changesOf10 = 2 + random.nextInt(7);
        boolean isSlow = random.nextInt(4) != 0;
        for (int performer = random.nextInt(7); performer > 0; performer--) {
            call(named(methods, "addPerformer"), isSlow);
        }
        while (calls < CALLS) {
            int dice = random.nextInt(10);
            Method method = dice < changesOf10
                    ? named(methods, CHANGES[random.nextInt(CHANGES.length)])
                    : methods.get(random.nextInt(methods.size()));
            if (random.nextInt(150) == 0 && calls + MOST_TYPED <= CALLS) {
                typeAndRun(methods);
            } else if (!isSlow || !isHasty(method.getName()) || random.nextInt(6) == 0) {
                call(method, isSlow);
            }
        }
    }

    /** With as many of these as of the others, most runs would have few cues, and soon no more. */
    private static boolean isHasty(String method) {
        return List.of("turnAct", "advance", "append", "restore", "cancelCue", "undo").contains(method);
    }

    private static Method named(List<Method> methods, String name) {
        return methods.stream().filter(m -> m.getName().equals(name)).findFirst().orElseThrow();
    }

    private void call(Method method, boolean isSlow) {
        Object[] given = new Object[method.getParameterCount()];
        int[] numbers = new int[3];
        for (int index = 0; index < given.length; index++) {
            if (method.getParameterTypes()[index] == char.class) {
                char sign = (char) (random.nextInt(20) == 0 ? random.nextInt(300) : 32 + random.nextInt(95));
                given[index] = sign;
                numbers[index] = sign;
            } else {
                numbers[index] = number(method.getName(), index);
                given[index] = numbers[index];
            }
        }
        if (isSlow && method.getName().equals("advance") && random.nextInt(8) != 0) {
            numbers[0] = 1 + random.nextInt(3);
            given[0] = numbers[0];
        }
        compare(method.getName(), given, numbers, method);
    }

    private void compare(String what, Object[] given, int[] numbers, Method method) {
        calls++;
        Object due = Check.outcome(() -> model.call(what, numbers[0], numbers[1], numbers[2]));
        Object got = outcome(method, given);
        check.same(name + ", call " + calls + ", " + what + Arrays.toString(given), due, got);
        now = (Integer) model.call("now", 0, 0, 0);
    }

    private Object outcome(Method method, Object[] given) {
        try {
            return method.invoke(opera, given);
        } catch (InvocationTargetException e) {
            return e.getCause().getClass().getSimpleName();
        } catch (IllegalAccessException e) {
            throw new AssertionError(e);
        }
    }

    private int number(String method, int index) {
        if (random.nextInt(25) == 0) {
            return ODD[random.nextInt(ODD.length)];
        }
        boolean isBeat = index == 0 && List.of("cueHush", "noiseAt", "isHushed", "firstCueFrom",
                "firstCueFromByScan").contains(method)
                || index == 1 && List.of("cueMouth", "cueProp", "moveCue").contains(method);
        if (isBeat) {
            return now + random.nextInt(isNarrow ? 5 : 14);
        }
        if (method.equals("advance") || method.startsWith("finesAfter") && index == 1) {
            return random.nextInt(42);
        }
        if (method.equals("cueAt")) {
            return random.nextInt(17);
        }
        boolean isId = index == 0 && (method.startsWith("cue") && !method.equals("cueMouth")
                && !method.equals("cueProp") || method.endsWith("Cue"));
        if (isId) {
            return pendingId();
        }
        return method.equals("setLimit") ? random.nextInt(33) : random.nextInt(random.nextInt(10) + 1);
    }

    private int pendingId() {
        int cues = (Integer) model.call("cueCount", 0, 0, 0);
        return cues > 0 && random.nextInt(8) != 0
                ? (Integer) model.call("cueAt", random.nextInt(cues), 0, 0) : random.nextInt(40);
    }

    private void typeAndRun(List<Method> methods) {
        compare("run", new Object[0], new int[3], named(methods, "run"));
        StringBuilder text = new StringBuilder();
        while (text.length() < 44 && (text.isEmpty() || random.nextInt(4) != 0)) {
            text.append(text.isEmpty() ? "" : ";").append(command());
        }
        if (random.nextInt(5) == 0) {
            int at = random.nextInt(text.length());
            text.setCharAt(at, " ;0123456789abcdefghilmnoprstuvwxy".charAt(random.nextInt(34)));
        }
        if (random.nextInt(8) == 0) {
            text.setLength(random.nextInt(text.length()));
        }
        Method append = named(methods, "append");
        for (int index = 0; index < text.length() && index < 60; index++) {
            char sign = text.charAt(index);
            compare("append", new Object[] {sign}, new int[] {sign, 0, 0}, append);
        }
        for (String query : new String[] {"run", "errorPosition", "failedCommand", "failedException"}) {
            compare(query, new Object[0], new int[3], named(methods, query));
        }
    }

    private String command() {
        int performer = random.nextInt(random.nextInt(7) + 1);
        int beat = random.nextInt(20) == 0 ? random.nextInt(1000) : now + 1 + random.nextInt(9);
        int id = pendingId();
        int size = random.nextInt(10) == 0 ? 0 : 1 + random.nextInt(9);
        String[] commands = {"performer", "pay " + performer + " " + size,
            "whisper " + performer + random.nextInt(4), "mouth " + performer + " " + beat + " " + size,
            "prop " + performer + " " + beat + " " + size, "hush " + beat + " " + size,
            "cancel " + id, "move " + id + " " + beat, "limit " + random.nextInt(32),
            "advance " + (random.nextInt(20) == 0 ? 0 : 1 + random.nextInt(5)), "act"};
        return commands[random.nextInt(commands.length)];
    }
}
