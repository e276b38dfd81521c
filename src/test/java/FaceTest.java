import java.lang.reflect.Constructor;
import java.lang.reflect.Field;
import java.lang.reflect.Method;
import java.lang.reflect.Modifier;
import java.util.Arrays;
import java.util.Set;
import java.util.TreeSet;
import java.util.stream.Collectors;

/** The class has the document's public face, and nothing beside it that is not private. */
public final class FaceTest {
    private static final String[] FACE = {
        "int addPerformer() IllegalStateException",
        "int performerCount()",
        "int fines(int) IndexOutOfBoundsException",
        "int payFine(int,int) IndexOutOfBoundsException IllegalArgumentException"
                + " UnsupportedOperationException",
        "boolean isMouthing(int) IndexOutOfBoundsException",
        "int whisper(int,int) IndexOutOfBoundsException IllegalArgumentException",
        "int performerAtRank(int) NoSuchElementException",
        "int cueMouth(int,int,int) IndexOutOfBoundsException IllegalArgumentException"
                + " IllegalStateException",
        "int cueProp(int,int,int) IndexOutOfBoundsException IllegalArgumentException"
                + " IllegalStateException",
        "int cueHush(int,int) IllegalArgumentException IllegalStateException",
        "int cancelCue(int) NoSuchElementException",
        "int moveCue(int,int) NoSuchElementException IllegalArgumentException",
        "int cueCount()",
        "int cueAt(int) NoSuchElementException",
        "int firstCueFrom(int) NoSuchElementException",
        "int firstCueFromByScan(int) NoSuchElementException",
        "int cueBeat(int) NoSuchElementException",
        "char cueKind(int) NoSuchElementException",
        "int cueSize(int) NoSuchElementException",
        "int cuePerformer(int) NoSuchElementException IllegalStateException",
        "int conflictCount()",
        "int conflictCountByPass()",
        "int setLimit(int) IllegalArgumentException",
        "int noiseAt(int)",
        "boolean isHushed(int)",
        "int loudestBeat() NoSuchElementException",
        "int advance(int) IllegalArgumentException",
        "int turnAct() IllegalStateException",
        "int now()",
        "int act()",
        "int finesAfter(int,int) IndexOutOfBoundsException IllegalArgumentException",
        "int finesAfterByCues(int,int) IndexOutOfBoundsException IllegalArgumentException",
        "int happenedCount()",
        "int clashCount()",
        "int imposedTotal()",
        "int paidTotal()",
        "int append(char) IllegalArgumentException IllegalStateException",
        "int run() IllegalArgumentException IllegalStateException",
        "int errorPosition() NoSuchElementException",
        "int failedCommand() NoSuchElementException",
        "int failedException() NoSuchElementException",
        "int describeCue(int) NoSuchElementException",
        "int describePerformer(int) IndexOutOfBoundsException",
        "char lineAt(int) IndexOutOfBoundsException",
        "double meanFines() ArithmeticException",
        "float hushedShare() ArithmeticException",
        "boolean isConsistent()",
        "int undo() IllegalStateException",
        "int save()",
        "int restore() IllegalStateException",
    };

    private static final Check check = new Check();

    public static void main(String[] args) {
        Set<String> due = new TreeSet<>(Arrays.asList(FACE));
        Set<String> got = new TreeSet<>();
        for (Method method : SilentOpera.class.getDeclaredMethods()) {
            if (!Modifier.isPrivate(method.getModifiers()) && !method.isSynthetic()) {
                check.isTrue(method + " is public", Modifier.isPublic(method.getModifiers()));
                got.add(signature(method));
            }
        }
        check.same("the methods", due, got);
        check.isTrue("final", Modifier.isFinal(SilentOpera.class.getModifiers()));
        check.isTrue("public", Modifier.isPublic(SilentOpera.class.getModifiers()));
        Constructor<?>[] constructors = SilentOpera.class.getDeclaredConstructors();
        check.same("constructors", 1, constructors.length);
        check.isTrue("public constructor", Modifier.isPublic(constructors[0].getModifiers()));
        for (Field field : SilentOpera.class.getDeclaredFields()) {
            check.isTrue(field + " is private", Modifier.isPrivate(field.getModifiers()));
        }
        noNameTwice();
        check.end();
    }

    private static String signature(Method method) {
        String parameters = Arrays.stream(method.getParameterTypes()).map(Class::getSimpleName)
                .collect(Collectors.joining(","));
        String thrown = Arrays.stream(method.getExceptionTypes()).map(type -> " " + type.getSimpleName())
                .collect(Collectors.joining());
        return method.getReturnType().getSimpleName() + " " + method.getName() + "(" + parameters + ")"
                + thrown;
    }

    private static void noNameTwice() {
        Set<String> names = new TreeSet<>();
        for (Method method : SilentOpera.class.getDeclaredMethods()) {
            check.isTrue("one method named " + method.getName(), names.add(method.getName()));
        }
        for (Class<?> inner : SilentOpera.class.getDeclaredClasses()) {
            for (Method method : inner.getDeclaredMethods()) {
                boolean isOfFace = Arrays.stream(FACE)
                        .anyMatch(line -> line.contains(" " + method.getName() + "("));
                check.isTrue(method + " has a name of its own", !isOfFace);
            }
        }
    }
}
