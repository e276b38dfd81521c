import java.io.IOException;
import java.lang.reflect.Method;
import java.util.NoSuchElementException;
import java.util.Set;
import java.util.TreeSet;

/** The term 'Exceptions': what each exception leaves as it was, and which one comes first. */
public final class RefusalsTest {
    private static final Class<IndexOutOfBoundsException> INDEX = IndexOutOfBoundsException.class;
    private static final Class<IllegalArgumentException> ARGUMENT = IllegalArgumentException.class;
    private static final Class<IllegalStateException> STATE = IllegalStateException.class;
    private static final Class<NoSuchElementException> ELEMENT = NoSuchElementException.class;
    private static final Class<ArithmeticException> ARITHMETIC = ArithmeticException.class;

    private static final int LEAST = Integer.MIN_VALUE;
    private static final int MOST = Integer.MAX_VALUE;

    private static final Check check = new Check();
    private static final Set<String> tried = new TreeSet<>();

    public static void main(String[] args) throws IOException {
        Sentences document = new Sentences(check);
        document.in("Exceptions");
        document.says("A method that throws an exception changes nothing, except that run clears the"
                + " command text and sets the error position or the failure.", () -> {
                    richHoldsMuch();
                    refusedPerformers();
                    refusedCues();
                    refusedBeats();
                    refusedLines();
                    refusedTexts();
                    eachExceptionIsTried();
                });
        document.says("If several exceptions apply, the exception listed first is thrown.", () -> {
            firstOfPayFineAndWhisper();
            firstOfAddedCues();
            firstOfOthers();
            firstOfRun();
        });
        document.end();
    }

    private static SilentOpera rich() {
        return Stage.rich(2);
    }

    /** Six performers and 16 cues in act 3, and a text of 60 characters. */
    private static SilentOpera full() {
        SilentOpera opera = Stage.run(Stage.rich(6), "?");
        opera.turnAct();
        opera.turnAct();
        while (opera.cueCount() < 16) {
            opera.cueProp(5, 30, 9);
        }
        return Stage.type(opera, "act".repeat(20));
    }

    /** What the other tests take to be there, and could not see spoilt if it were not. */
    private static void richHoldsMuch() {
        SilentOpera opera = rich();
        check.same("beat and act", "3 1", opera.now() + " " + opera.act());
        check.same("fines", "9 9", opera.fines(0) + " " + opera.fines(1));
        check.same("mouths", "true false", opera.isMouthing(0) + " " + opera.isMouthing(1));
        check.same("the hush that has begun", "true false",
                opera.isHushed(10) + " " + opera.isHushed(11));
        check.same("cues", 4, opera.cueCount());
        check.same("conflicts", 1, opera.conflictCount());
        check.same("line", "#7h@19=3", Probe.line(opera));
        check.same("reports", "4 1 1", opera.errorPosition() + " " + opera.failedCommand() + " "
                + opera.failedException());
        check.same("length of the text", 11, Aftermath.textLength(rich()));
        check.same("the text", 2, rich().run());
        check.same("the latest eight changes", 7, rich().undo());
        check.same("cues of the snapshot", 5, opera.restore());
        check.same("beat of the snapshot", 1, opera.now());
    }

    private static void nothing(String method, Class<? extends RuntimeException> due,
            Check.Setting setting, Check.Act act) {
        tried.add(method + " " + due.getSimpleName());
        check.refuses(method, due, setting, act);
    }

    private static void refusedPerformers() {
        nothing("addPerformer", STATE, RefusalsTest::full, SilentOpera::addPerformer);
        nothing("fines", INDEX, RefusalsTest::rich, it -> it.fines(2));
        nothing("payFine", INDEX, RefusalsTest::rich, it -> it.payFine(2, 1));
        nothing("payFine", ARGUMENT, RefusalsTest::rich, it -> it.payFine(0, 0));
        nothing("payFine", UnsupportedOperationException.class, RefusalsTest::rich,
                it -> it.payFine(0, 10));
        nothing("isMouthing", INDEX, RefusalsTest::rich, it -> it.isMouthing(2));
        nothing("whisper", INDEX, RefusalsTest::rich, it -> it.whisper(2, 1));
        nothing("whisper", ARGUMENT, RefusalsTest::rich, it -> it.whisper(0, 4));
        nothing("performerAtRank", ELEMENT, RefusalsTest::rich, it -> it.performerAtRank(2));
    }

    private static void refusedCues() {
        nothing("cueMouth", INDEX, RefusalsTest::rich, it -> it.cueMouth(2, 9, 1));
        nothing("cueMouth", ARGUMENT, RefusalsTest::rich, it -> it.cueMouth(0, 3, 1));
        nothing("cueMouth", ARGUMENT, RefusalsTest::rich, it -> it.cueMouth(0, 9, 10));
        nothing("cueMouth", STATE, RefusalsTest::full, it -> it.cueMouth(0, 9, 1));
        nothing("cueProp", INDEX, RefusalsTest::rich, it -> it.cueProp(2, 9, 1));
        nothing("cueProp", ARGUMENT, RefusalsTest::rich, it -> it.cueProp(0, 200, 1));
        nothing("cueProp", ARGUMENT, RefusalsTest::rich, it -> it.cueProp(0, 9, 0));
        nothing("cueProp", STATE, RefusalsTest::full, it -> it.cueProp(0, 9, 1));
        nothing("cueHush", ARGUMENT, RefusalsTest::rich, it -> it.cueHush(3, 1));
        nothing("cueHush", ARGUMENT, RefusalsTest::rich, it -> it.cueHush(9, 0));
        nothing("cueHush", STATE, RefusalsTest::full, it -> it.cueHush(9, 1));
        nothing("cancelCue", ELEMENT, RefusalsTest::rich, it -> it.cancelCue(0));
        nothing("moveCue", ELEMENT, RefusalsTest::rich, it -> it.moveCue(0, 9));
        nothing("moveCue", ARGUMENT, RefusalsTest::rich, it -> it.moveCue(it.cueAt(0), 3));
        nothing("cueAt", ELEMENT, RefusalsTest::full, it -> it.cueAt(16));
        nothing("firstCueFrom", ELEMENT, RefusalsTest::rich, it -> it.firstCueFrom(24));
        nothing("firstCueFromByScan", ELEMENT, RefusalsTest::rich,
                it -> it.firstCueFromByScan(24));
        nothing("cueBeat", ELEMENT, RefusalsTest::rich, it -> it.cueBeat(0));
        nothing("cueKind", ELEMENT, RefusalsTest::rich, it -> it.cueKind(0));
        nothing("cueSize", ELEMENT, RefusalsTest::rich, it -> it.cueSize(0));
        nothing("cuePerformer", ELEMENT, RefusalsTest::rich, it -> it.cuePerformer(0));
        nothing("cuePerformer", STATE, RefusalsTest::rich, it -> it.cuePerformer(it.cueAt(0)));
    }

    private static void refusedBeats() {
        nothing("setLimit", ARGUMENT, RefusalsTest::rich, it -> it.setLimit(31));
        nothing("loudestBeat", ELEMENT, () -> Stage.rich(0), SilentOpera::loudestBeat);
        nothing("advance", ARGUMENT, RefusalsTest::rich, it -> it.advance(0));
        nothing("advance", ARGUMENT, RefusalsTest::rich, it -> it.advance(41));
        nothing("turnAct", STATE, RefusalsTest::full, SilentOpera::turnAct);
        nothing("finesAfter", INDEX, RefusalsTest::rich, it -> it.finesAfter(2, 40));
        nothing("finesAfter", ARGUMENT, RefusalsTest::rich, it -> it.finesAfter(0, 41));
        nothing("finesAfterByCues", INDEX, RefusalsTest::rich, it -> it.finesAfterByCues(2, 40));
        nothing("finesAfterByCues", ARGUMENT, RefusalsTest::rich,
                it -> it.finesAfterByCues(0, 41));
    }

    private static void refusedLines() {
        nothing("append", ARGUMENT, RefusalsTest::rich, it -> it.append((char) 127));
        nothing("append", STATE, RefusalsTest::full, it -> it.append('x'));
        nothing("errorPosition", ELEMENT, () -> Stage.run(Stage.withFines(9), "cancel 9"),
                SilentOpera::errorPosition);
        nothing("failedCommand", ELEMENT, () -> Stage.run(Stage.withFines(9), "x"),
                SilentOpera::failedCommand);
        nothing("failedException", ELEMENT, () -> Stage.run(Stage.withFines(9), "x"),
                SilentOpera::failedException);
        nothing("describeCue", ELEMENT, RefusalsTest::rich, it -> it.describeCue(0));
        nothing("describePerformer", INDEX, RefusalsTest::rich, it -> it.describePerformer(2));
        nothing("lineAt", INDEX, RefusalsTest::rich, it -> it.lineAt(Probe.line(it).length()));
        nothing("meanFines", ARITHMETIC, () -> Stage.rich(0), SilentOpera::meanFines);
        nothing("hushedShare", ARITHMETIC, () -> Stage.withProps(3), SilentOpera::hushedShare);
        nothing("undo", STATE, () -> Stage.then(rich(), SilentOpera::restore), SilentOpera::undo);
        nothing("restore", STATE, () -> Stage.type(Stage.withFines(9, 3), "act"),
                SilentOpera::restore);
    }

    /** What run() does set is tested with its promise and those of the reports. */
    private static void refusedTexts() {
        Check.Setting setting = () -> Stage.run(rich(), "?");
        tried.add("run IllegalArgumentException");
        tried.add("run IllegalStateException");
        for (String text : new String[] {"", "act;", "advance 9;performer;x"}) {
            check.refusesText(ARGUMENT, setting, text);
            SilentOpera opera = Stage.run(setting.make(), text);
            check.same("the text is clear after '" + text + "'", 1, opera.append('x'));
            check.same("the error position is set by '" + text + "'",
                    Model.errorPositionOf(text), opera.errorPosition());
            check.same("the failure stays with '" + text + "'", "1 1",
                    opera.failedCommand() + " " + opera.failedException());
        }
        String[] failing = {"pay 0 10", "performer;hush 9 1;act;limit 0;advance 9;pay 5 1",
            "move 5 9;prop 0 9 9;cancel 5;cancel 5"};
        for (String text : failing) {
            check.refusesText(STATE, setting, text);
            SilentOpera opera = Stage.run(setting.make(), text);
            check.same("the text is clear after '" + text + "'", 1, opera.append('x'));
            check.same("the failed command of '" + text + "'", text.split(";").length - 1,
                    opera.failedCommand());
            check.same("the error position stays with '" + text + "'", 11,
                    opera.errorPosition());
        }
    }

    private static void eachExceptionIsTried() {
        Set<String> due = new TreeSet<>();
        for (Method method : SilentOpera.class.getMethods()) {
            for (Class<?> exception : method.getExceptionTypes()) {
                if (method.getDeclaringClass() == SilentOpera.class) {
                    due.add(method.getName() + " " + exception.getSimpleName());
                }
            }
        }
        check.same("the exceptions that are tried", due, tried);
    }

    private static void first(String what, Class<? extends RuntimeException> due,
            Check.Setting setting, Check.Act act) {
        check.refuses(what, due, setting, act);
    }

    private static void firstOfPayFineAndWhisper() {
        for (int performer : new int[] {-1, 2, LEAST, MOST}) {
            for (int number : new int[] {LEAST, -1, 0, 4, 10, 99, 100, MOST}) {
                first("payFine " + performer + " " + number, INDEX, RefusalsTest::rich,
                        it -> it.payFine(performer, number));
                first("whisper " + performer + " " + number, INDEX, RefusalsTest::rich,
                        it -> it.whisper(performer, number));
            }
        }
        for (int coins : new int[] {100, 101, MOST}) {
            first("payFine, bad and too many coins " + coins, ARGUMENT, RefusalsTest::rich,
                    it -> it.payFine(0, coins));
        }
        first("payFine, only too many coins", UnsupportedOperationException.class,
                RefusalsTest::rich, it -> it.payFine(0, 99));
    }

    private static void firstOfAddedCues() {
        Check.Setting[] settings = {() -> Stage.withProps(15), () -> Stage.withProps(16)};
        for (Check.Setting setting : settings) {
            for (int[] bad : new int[][] {{0, 1}, {200, 1}, {9, 0}, {9, 10}, {0, 0}, {200, 10}}) {
                String what = " at " + bad[0] + " of " + bad[1];
                first("mouth" + what, ARGUMENT, setting, it -> it.cueMouth(0, bad[0], bad[1]));
                first("prop" + what, ARGUMENT, setting, it -> it.cueProp(0, bad[0], bad[1]));
                first("hush" + what, ARGUMENT, setting, it -> it.cueHush(bad[0], bad[1]));
                first("nobody's mouth" + what, INDEX, setting,
                        it -> it.cueMouth(1, bad[0], bad[1]));
                first("nobody's prop" + what, INDEX, setting,
                        it -> it.cueProp(-1, bad[0], bad[1]));
            }
        }
        first("nobody's 17th mouth", INDEX, settings[1], it -> it.cueMouth(1, 9, 1));
        first("nobody's 17th prop", INDEX, settings[1], it -> it.cueProp(1, 9, 1));
        first("only a 17th mouth", STATE, settings[1], it -> it.cueMouth(0, 9, 1));
        first("only a 17th prop", STATE, settings[1], it -> it.cueProp(0, 9, 1));
        first("only a 17th hush", STATE, settings[1], it -> it.cueHush(9, 1));
    }

    private static void firstOfOthers() {
        for (int beat : new int[] {LEAST, 0, 3, 200, MOST}) {
            first("move no cue to " + beat, ELEMENT, RefusalsTest::rich,
                    it -> it.moveCue(0, beat));
            first("only move to " + beat, ARGUMENT, RefusalsTest::rich,
                    it -> it.moveCue(it.cueAt(0), beat));
        }
        for (int beats : new int[] {LEAST, -1, 41, MOST}) {
            first("nobody's fines after " + beats, INDEX, RefusalsTest::rich,
                    it -> it.finesAfter(2, beats));
            first("nobody's fines by cues after " + beats, INDEX, RefusalsTest::rich,
                    it -> it.finesAfterByCues(-1, beats));
        }
        for (int code : new int[] {0, 31, 127, 65535}) {
            first("code " + code + " in a full text", ARGUMENT, RefusalsTest::full,
                    it -> it.append((char) code));
        }
    }

    /** A text that is no command text has no command that could fail. */
    private static void firstOfRun() {
        for (String text : new String[] {"cancel 0;", "cancel 0;x", "limit 99;cancel 0 "}) {
            check.refusesText(ARGUMENT, () -> Stage.run(rich(), "?"), text);
        }
    }
}
