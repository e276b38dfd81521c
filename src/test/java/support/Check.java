import java.util.NoSuchElementException;
import java.util.Objects;

/** Counts and prints the answers that are not the ones due, and ends the program accordingly. */
final class Check {
    /** A call of the object under test. */
    interface Call {
        Object answer();
    }

    private int right = 0;
    private int wrong = 0;

    void same(String what, Object due, Object got) {
        if (Objects.equals(due, got)) {
            right++;
        } else {
            wrong++;
            System.out.println(what + " answered " + got + ", due is " + due);
        }
    }

    void isTrue(String what, boolean got) {
        same(what, true, got);
    }

    /** The call throws just this exception, and changes no answer of the object. */
    void refuses(String what, Class<? extends RuntimeException> due, SilentOpera opera, Call call) {
        String before = Probe.of(opera);
        same(what, due.getSimpleName(), outcome(call));
        same(what + ": the object afterwards", before, Probe.of(opera));
    }

    void noElement(String what, SilentOpera opera, Call call) {
        refuses(what, NoSuchElementException.class, opera, call);
    }

    void noIndex(String what, SilentOpera opera, Call call) {
        refuses(what, IndexOutOfBoundsException.class, opera, call);
    }

    void badArgument(String what, SilentOpera opera, Call call) {
        refuses(what, IllegalArgumentException.class, opera, call);
    }

    void badState(String what, SilentOpera opera, Call call) {
        refuses(what, IllegalStateException.class, opera, call);
    }

    /** The answer of a call, or the name of the exception that it throws. */
    static Object outcome(Call call) {
        try {
            return call.answer();
        } catch (RuntimeException e) {
            return e.getClass().getSimpleName();
        }
    }

    void end() {
        System.out.println(right + " answers are as due, " + wrong + " are not");
        if (wrong != 0 || right == 0) {
            System.exit(1);
        }
    }
}
