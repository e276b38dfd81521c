import java.util.Map;
import java.util.Objects;

/** Counts and prints the answers that are not the ones due, and ends the program accordingly. */
final class Check {
    /** A call of the object under test. */
    interface Call {
        Object answer();
    }

    /** Makes the object that a test begins with; each call makes the same one anew. */
    interface Setting {
        SilentOpera make();
    }

    /** A call of whichever object is given. */
    interface Act {
        Object on(SilentOpera opera);
    }

    private String subject = "";
    private int right = 0;
    private int wrong = 0;

    /** What the next checks are about, told with each answer that is not due. */
    void about(String newSubject) {
        subject = newSubject;
    }

    int checks() {
        return right + wrong;
    }

    void same(String what, Object due, Object got) {
        if (Objects.equals(due, got)) {
            right++;
        } else {
            wrong++;
            System.out.println(subject + what + " answered " + got + ", due is " + due);
        }
    }

    void isTrue(String what, boolean got) {
        same(what, true, got);
    }

    /** The call throws just this exception, and no later call can tell that it was there. */
    void refuses(String what, Class<? extends RuntimeException> due, Setting setting, Act act) {
        same(what, due.getSimpleName(), outcome(() -> act.on(setting.make())));
        sameAfter(what, Aftermath.of(setting), Aftermath.of(() -> {
            SilentOpera opera = setting.make();
            outcome(() -> act.on(opera));
            return opera;
        }));
    }

    /**
     * The text is refused by run() with just this exception, and no later call but those for the
     * error position and the failure can tell that it was there. The setting has an empty text.
     */
    void refusesText(Class<? extends RuntimeException> due, Setting setting, String text) {
        String what = "run '" + text + "'";
        same(what, due.getSimpleName(), outcome(Stage.type(setting.make(), text)::run));
        Map<String, String> before = Aftermath.of(setting);
        Map<String, String> after = Aftermath.of(() -> Stage.run(setting.make(), text));
        before.remove(Aftermath.REPORT);
        after.remove(Aftermath.REPORT);
        sameAfter(what, before, after);
    }

    void sameAfter(String what, Map<String, String> due, Map<String, String> got) {
        for (String way : due.keySet()) {
            same(what + ": afterwards " + way, due.get(way), got.get(way));
        }
    }

    /** The answer of a call, or the name of the exception that it throws. */
    static Object outcome(Call call) {
        try {
            return call.answer();
        } catch (RuntimeException e) {
            return e.getClass().getSimpleName();
        }
    }

    void end() {
        System.out.println(right + " answers are as due, " + wrong + " are not");
        if (wrong != 0 || right == 0) {
            System.exit(1);
        }
    }
}
