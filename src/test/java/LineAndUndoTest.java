import java.io.IOException;
import java.util.NoSuchElementException;

/** Promises 43 to 51 and the term 'Changes': the line, statistics, undo, save and restore. */
public final class LineAndUndoTest {
    private static final Class<IllegalStateException> BAD_STATE = IllegalStateException.class;
    private static final Class<ArithmeticException> ARITHMETIC = ArithmeticException.class;

    /** Each change, in an object as changeable() makes it. */
    private static final Check.Act[] CHANGES = {SilentOpera::addPerformer,
        opera -> opera.payFine(1, 3), opera -> opera.whisper(1, 3),
        opera -> opera.cueMouth(0, 22, 3), opera -> opera.cueProp(1, 21, 3),
        opera -> opera.cueHush(25, 3), opera -> opera.cancelCue(opera.cueAt(0)),
        opera -> opera.moveCue(opera.cueAt(0), 30), opera -> opera.setLimit(1),
        opera -> opera.advance(40), SilentOpera::turnAct,
        opera -> Stage.type(opera, "performer;limit 0;advance 9").run()};

    private static final Check check = new Check();
    private static final Bounds bounds = new Bounds(check);

    public static void main(String[] args) throws IOException {
        Sentences document = new Sentences(check);
        changes(document);
        line(document);
        statistics(document);
        undo(document);
        snapshot(document);
        document.end();
    }

    /** An object with an empty text, and with no change to undo. */
    private static SilentOpera changeable() {
        return Stage.then(Stage.run(Stage.rich(2), "?"), SilentOpera::save,
                SilentOpera::restore);
    }

    private static void changes(Sentences document) {
        document.in("Changes");
        document.says("A change is a successful call of addPerformer, payFine, whisper, cueMouth,"
                + " cueProp, cueHush, cancelCue, moveCue, setLimit, advance, turnAct or run.",
                () -> {
                    eachChange();
                    otherCallsAreNoChanges();
                    refusedCallsAreNoChanges();
                });
        document.says("A successful call is a change even if nothing differs afterwards.",
                LineAndUndoTest::changesWithoutDifference);
        document.says("A call of run that carries out several commands is one change.",
                LineAndUndoTest::runsAreOneChange);
        document.says("The latest 8 changes can be undone, the latest one first.",
                LineAndUndoTest::latestEight);
        document.says("The command text, the error position, the failure, and the line are neither"
                + " undone nor saved.", LineAndUndoTest::neitherUndoneNorSaved);
        document.says("Everything else is, including the id of the next cue.", () -> {
            everythingElse();
            everythingElseInNumbers();
        });
    }

    private static void eachChange() {
        for (int change = 0; change < CHANGES.length; change++) {
            SilentOpera opera = Stage.then(changeable(), CHANGES[change]);
            check.same("undo of change " + change, 0, Check.outcome(opera::undo));
            check.same("before change " + change, "IllegalStateException",
                    Check.outcome(opera::undo));
        }
    }

    private static void otherCallsAreNoChanges() {
        Check.Act[] others = {Probe::of, opera -> opera.append('x'), SilentOpera::save,
            opera -> opera.describePerformer(0), opera -> opera.describeCue(opera.cueAt(0)),
            SilentOpera::isConsistent, SilentOpera::errorPosition, SilentOpera::failedCommand,
            SilentOpera::failedException};
        for (int other = 0; other < others.length; other++) {
            check.same("after call " + other, "IllegalStateException",
                    Check.outcome(Stage.then(changeable(), others[other])::undo));
            SilentOpera opera = Stage.then(changeable(), it -> it.setLimit(1), others[other]);
            check.same("a change before call " + other, 0, Check.outcome(opera::undo));
        }
        SilentOpera undone = Stage.then(changeable(), it -> it.setLimit(1), SilentOpera::undo);
        check.same("after undo", "IllegalStateException", Check.outcome(undone::undo));
    }

    private static void refusedCallsAreNoChanges() {
        Check.Act[] refused = {opera -> opera.payFine(0, 99), opera -> opera.whisper(0, 4),
            opera -> opera.cueMouth(0, 0, 1), opera -> opera.cueProp(0, 0, 1),
            opera -> opera.cueHush(0, 1), opera -> opera.cancelCue(99),
            opera -> opera.moveCue(99, 1), opera -> opera.setLimit(31),
            opera -> opera.advance(41), opera -> Stage.type(opera, "act;cancel 99").run(),
            opera -> Stage.type(opera, "act;").run()};
        for (int call = 0; call < refused.length; call++) {
            SilentOpera opera = changeable();
            int index = call;
            check.isTrue("call " + call + " is refused",
                    Check.outcome(() -> refused[index].on(opera)) instanceof String);
            check.same("after call " + call, "IllegalStateException",
                    Check.outcome(opera::undo));
        }
        SilentOpera full = Stage.then(Stage.with(6), SilentOpera::turnAct, SilentOpera::turnAct,
                SilentOpera::turnAct, SilentOpera::save, SilentOpera::restore);
        Check.outcome(full::addPerformer);
        Check.outcome(full::turnAct);
        check.same("after addPerformer and turnAct", "IllegalStateException",
                Check.outcome(full::undo));
    }

    private static void changesWithoutDifference() {
        Check.Act[] idle = {opera -> opera.setLimit(6), opera -> opera.moveCue(0, 2),
            opera -> opera.whisper(0, 3), opera -> Stage.type(opera, "limit 6").run()};
        for (int call = 0; call < idle.length; call++) {
            Check.Setting setting = () -> Stage.then(Stage.withProps(1), SilentOpera::save,
                    SilentOpera::restore);
            SilentOpera opera = setting.make();
            idle[call].on(opera);
            check.same("nothing differs after call " + call, Probe.of(setting.make()),
                    Probe.of(opera));
            check.same("undo of call " + call, 0, Check.outcome(opera::undo));
        }
    }

    private static void runsAreOneChange() {
        String text = "act";
        for (int commands = 1; commands <= 7; commands++) {
            SilentOpera opera = Stage.type(changeable(), text);
            check.same("run '" + text + "'", commands, Check.outcome(opera::run));
            check.same("undo of '" + text + "'", 0, Check.outcome(opera::undo));
            check.same("as before '" + text + "'", Probe.of(changeable()), Probe.of(opera));
            text += ";limit 9";
        }
    }

    private static void latestEight() {
        for (int changes = 0; changes <= 30; changes++) {
            SilentOpera opera = new SilentOpera();
            opera.advance(7);
            opera.save();
            opera.restore();
            for (int change = 0; change < changes; change++) {
                opera.advance(1);
            }
            int most = Math.min(changes, 8);
            for (int undo = 1; undo <= most; undo++) {
                check.same("undo " + undo + " of " + changes, most - undo,
                        Check.outcome(opera::undo));
                check.same("the latest one first", 7 + changes - undo, opera.now());
            }
            check.same("one more undo after " + changes, "IllegalStateException",
                    Check.outcome(opera::undo));
            check.same("it changes nothing", 7 + changes - most, opera.now());
        }
    }

    private static void neitherUndoneNorSaved() {
        Check.Setting late = () -> Stage.then(changeable(), SilentOpera::save, it -> it.setLimit(1),
                it -> Stage.run(it, "act;act;limit"), it -> Stage.run(it, "act;pay 0 0"),
                it -> it.describePerformer(1), it -> Stage.type(it, "ac"));
        for (Check.Act back : new Check.Act[] {SilentOpera::undo, SilentOpera::restore}) {
            SilentOpera opera = Stage.then(late.make(), back);
            check.same("error position", 13, opera.errorPosition());
            check.same("failed command", 1, opera.failedCommand());
            check.same("failed exception", 2, opera.failedException());
            check.same("line", "1-!9", Probe.line(opera));
            check.same("length of the text", 3, opera.append('t'));
            check.same("the text", 1, Check.outcome(opera::run));
        }
    }

    private static void everythingElse() {
        for (int change = 0; change < CHANGES.length; change++) {
            Check.Act act = CHANGES[change];
            check.isTrue("change " + change + " differs", !Aftermath.state(changeable()).equals(
                    Aftermath.state(Stage.then(changeable(), act))));
            Check.Setting changed = () -> Stage.then(changeable(), it -> it.setLimit(8));
            check.sameAfter("undo of change " + change, Aftermath.of(changed),
                    Aftermath.of(() -> Stage.then(changed.make(), act, SilentOpera::undo)));
            check.sameAfter("restore after change " + change,
                    Aftermath.of(LineAndUndoTest::changeable),
                    Aftermath.of(() -> Stage.then(changeable(), act, SilentOpera::restore)));
        }
        SilentOpera opera = Stage.withProps(3);
        opera.save();
        opera.undo();
        check.same("the next id is undone", 2, opera.cueHush(9, 1));
        opera.cueHush(9, 1);
        opera.restore();
        check.same("the next id is restored", 3, opera.cueHush(9, 1));
    }

    /**
     * An object of which holdsAll() knows each answer. The tests by comparison would not see what
     * is lost already while their own objects are made.
     */
    private static SilentOpera inNumbers() {
        SilentOpera opera = Stage.with(2);
        opera.setLimit(5);
        opera.turnAct();
        opera.cueProp(0, 1, 6);
        opera.cueMouth(1, 2, 9);
        opera.cueMouth(1, 2, 3);
        opera.cueHush(2, 9);
        opera.cueProp(1, 20, 7);
        opera.cueMouth(0, 21, 8);
        opera.advance(2);
        opera.whisper(1, 3);
        opera.payFine(0, 4);
        return opera;
    }

    private static void holdsAll(String what, SilentOpera opera) {
        check.same(what + ", performers", 2, opera.performerCount());
        check.same(what + ", fines", "2 6", opera.fines(0) + " " + opera.fines(1));
        check.same(what + ", closed mouth", false, opera.isMouthing(0));
        check.same(what + ", open mouth", true, opera.isMouthing(1));
        check.same(what + ", beat and act", "2 1", opera.now() + " " + opera.act());
        check.same(what + ", cues", 2, opera.cueCount());
        check.same(what + ", order", "4 5", opera.cueAt(0) + " " + opera.cueAt(1));
        cueLine("#4p1@20=7", opera, 4);
        cueLine("#5m0@21=8", opera, 5);
        check.same(what + ", happened", 4, opera.happenedCount());
        check.same(what + ", clashes", 1, opera.clashCount());
        check.same(what + ", imposed", 12, opera.imposedTotal());
        check.same(what + ", paid", 4, opera.paidTotal());
        check.same(what + ", share", 0.5f, opera.hushedShare());
        check.same(what + ", limit", 5, opera.setLimit(30));
        check.same(what + ", next id", 6, opera.cueHush(199, 1));
        opera.advance(8);
        check.same(what + ", last beat of the mouth", true, opera.isMouthing(1));
        check.same(what + ", last beat of the hush", 2, opera.whisper(0, 1));
        opera.advance(1);
        check.same(what + ", after the mouth", false, opera.isMouthing(1));
        check.same(what + ", after the hush", 0, opera.whisper(0, 1));
    }

    private static void everythingElseInNumbers() {
        holdsAll("without a change", inNumbers());
        for (int change = 0; change < CHANGES.length; change++) {
            Check.Act act = CHANGES[change];
            holdsAll("undo of change " + change,
                    Stage.then(inNumbers(), act, SilentOpera::undo));
            holdsAll("restore after change " + change,
                    Stage.then(inNumbers(), SilentOpera::save, act, SilentOpera::restore));
        }
        String[] failing = {"performer;pay 1 3;whisper 13;limit 1;act;cancel 999",
            "move 4 50;prop 0 9 9;cancel 5;advance 40;move 4 9", "advance 2;hush 2 1"};
        for (String text : failing) {
            holdsAll("after '" + text + "' has failed", Stage.run(inNumbers(), text));
        }
    }

    private static void line(Sentences document) {
        document.in("Promise 43");
        document.says("Writes a pending cue to the line, replacing its previous content: \"#\" and"
                + " its id, its kind as in cueKind(), the performer unless it is a hush, \"@\" and"
                + " its beat, and \"=\" and its size.", LineAndUndoTest::describeCue);
        document.says("Examples are \"#4p2@17=9\" and \"#5h@20=3\".",
                LineAndUndoTest::examplesOfCues);
        document.saysToo("- `cue`: the id of the cue");
        document.says("Returns the length of the line.", LineAndUndoTest::lengthsOfCues);
        document.says("Throws `NoSuchElementException` if no pending cue has this id",
                () -> bounds.noPendingCue(SilentOpera::describeCue));

        document.in("Promise 44");
        document.says("Writes a performer to the line, replacing its previous content: the number,"
                + " \"o\" if the mouth is open or \"-\" if it is closed, and \"!\" and the fines if"
                + " there are some.", LineAndUndoTest::describePerformer);
        document.says("Examples are \"2o!14\" and \"0-\".", LineAndUndoTest::examplesOfPerformers);
        document.saysToo("- `performer`: the performer");
        document.says("Returns the length of the line.", LineAndUndoTest::lengthsOfPerformers);
        document.says("Throws `IndexOutOfBoundsException` if there is no such performer",
                () -> bounds.noSuchPerformer(SilentOpera::describePerformer));

        document.in("Promise 45");
        document.saysToo("Returns a character of the line.");
        document.says("The line is initially empty.", LineAndUndoTest::emptyLine);
        document.saysToo("- `index`: the index of the character", "Returns the character.");
        document.says("Throws `IndexOutOfBoundsException` if there is no such index",
                LineAndUndoTest::noSuchIndex);
    }

    private static void cueLine(String due, SilentOpera opera, int cue) {
        check.same("length of " + due, due.length(), opera.describeCue(cue));
        check.same("line", due, Probe.line(opera));
    }

    private static void describeCue() {
        SilentOpera opera = Stage.with(6);
        int first = 0;
        for (int beat : new int[] {9, 10, 99, 100, 199}) {
            opera.cueMouth(0, beat, 1);
            opera.cueProp(5, beat, 9);
            opera.cueHush(beat, 9);
            cueLine("#" + first + "m0@" + beat + "=1", opera, first);
            cueLine("#" + (first + 1) + "p5@" + beat + "=9", opera, first + 1);
            cueLine("#" + (first + 2) + "h@" + beat + "=9", opera, first + 2);
            first += 3;
        }
        opera.moveCue(1, 198);
        cueLine("#1p5@198=9", opera, 1);
        SilentOpera late = new SilentOpera();
        for (int id = 0; id <= 100; id++) {
            late.cueHush(2, 1);
            if (id == 9 || id == 10 || id >= 99) {
                cueLine("#" + id + "h@2=1", late, id);
            }
            late.cancelCue(id);
        }
    }

    private static void examplesOfCues() {
        SilentOpera opera = Stage.with(3);
        for (int cue = 0; cue < 4; cue++) {
            opera.cueHush(1, 1);
        }
        opera.cueProp(2, 17, 9);
        opera.cueHush(20, 3);
        cueLine("#4p2@17=9", opera, 4);
        cueLine("#5h@20=3", opera, 5);
    }

    private static void lengthsOfCues() {
        SilentOpera opera = Stage.with(1);
        opera.cueHush(9, 1);
        opera.cueMouth(0, 199, 1);
        check.same("the shortest", 7, opera.describeCue(0));
        check.same("a longer one", 10, opera.describeCue(1));
        check.same("the shortest again", 7, opera.describeCue(0));
    }

    private static void performerLine(String due, SilentOpera opera, int performer) {
        check.same("length of " + due, due.length(), opera.describePerformer(performer));
        check.same("line", due, Probe.line(opera));
    }

    private static void describePerformer() {
        SilentOpera opera = Stage.withFines(0, 1, 9, 0, 0, 0);
        performerLine("0-", opera, 0);
        performerLine("1-!1", opera, 1);
        performerLine("2-!9", opera, 2);
        opera.payFine(1, 1);
        performerLine("1-", opera, 1);
        opera.cueMouth(2, 2, 1);
        opera.cueMouth(5, 2, 1);
        opera.advance(1);
        performerLine("2o!9", opera, 2);
        performerLine("5o", opera, 5);
        opera.advance(1);
        performerLine("2-!9", opera, 2);
        performerLine("5-", opera, 5);
        for (int fines : new int[] {10, 99, 100, 144}) {
            performerLine("0-!" + fines, Stage.owing(fines), 0);
        }
    }

    private static void examplesOfPerformers() {
        SilentOpera opera = Stage.withFines(0, 0, 9);
        opera.setLimit(0);
        opera.cueProp(2, 2, 5);
        opera.cueMouth(2, 2, 1);
        opera.advance(1);
        performerLine("2o!14", opera, 2);
        performerLine("0-", opera, 0);
    }

    private static void lengthsOfPerformers() {
        SilentOpera opera = Stage.withFines(0, 9);
        check.same("the shortest", 2, opera.describePerformer(0));
        check.same("a longer one", 4, opera.describePerformer(1));
        check.same("the shortest again", 2, opera.describePerformer(0));
        check.same("its line", "0-", Probe.line(opera));
    }

    private static void emptyLine() {
        check.same("a new object", "", Probe.line(new SilentOpera()));
        SilentOpera opera = Stage.withProps(2);
        Check.outcome(() -> opera.describeCue(2));
        Check.outcome(() -> opera.describePerformer(1));
        check.same("after refused calls", "", Probe.line(opera));
    }

    private static void noSuchIndex() {
        Class<? extends RuntimeException> due = IndexOutOfBoundsException.class;
        bounds.indexBelow("index", due, 0, SilentOpera::new, SilentOpera::lineAt);
        bounds.indexBelow("index", due, 2, () -> Stage.then(Stage.with(1),
                opera -> opera.describePerformer(0)), SilentOpera::lineAt);
        bounds.indexBelow("index", due, 9, () -> Stage.then(Stage.with(1),
                opera -> opera.cueProp(0, 10, 1), opera -> opera.describeCue(0)),
                SilentOpera::lineAt);
        bounds.indexBelow("index behind a shorter line", due, 2, () -> Stage.then(Stage.with(1),
                opera -> opera.cueProp(0, 10, 1), opera -> opera.describeCue(0),
                opera -> opera.describePerformer(0)), SilentOpera::lineAt);
    }

    private static void statistics(Sentences document) {
        document.in("Promise 46");
        document.says("Returns the mean of the fines that the performers owe: the sum divided by the"
                + " number of performers, both converted to double.", LineAndUndoTest::meanFines);
        document.saysToo("Returns the mean.");
        document.says("Throws `ArithmeticException` if there are no performers",
                LineAndUndoTest::nobody);

        document.in("Promise 47");
        document.says("Returns the share of the beats that have passed so far that were hushed, both"
                + " numbers converted to float.", LineAndUndoTest::hushedShare);
        document.saysToo("Returns the share.");
        document.says("Throws `ArithmeticException` if no beat has passed",
                LineAndUndoTest::noBeat);

        document.in("Promise 48");
        document.says("Checks the invariants: the imposed fines are the paid ones and those owed;"
                + " conflictCount() equals conflictCountByPass(); for each performer finesAfter()"
                + " equals finesAfterByCues() for 0, 10 and 40 beats; and the first cue from the"
                + " next beat on is the same by both ways, if there is one.",
                LineAndUndoTest::isConsistent);
        document.saysToo("Returns whether all of them hold.");
    }

    private static void meanFines() {
        check.same("one who owes nothing", 0.0, Stage.with(1).meanFines());
        check.same("one", 9.0, Stage.withFines(9).meanFines());
        check.same("13 of 3", 13.0 / 3.0, Stage.withFines(2, 4, 7).meanFines());
        check.same("1 of 6", 1.0 / 6.0, Stage.withFines(0, 0, 0, 0, 0, 1).meanFines());
        check.same("144 of 1", 144.0, Stage.owing(144).meanFines());
        SilentOpera paid = Stage.withFines(2, 9);
        paid.payFine(1, 6);
        check.same("without the paid ones", 2.5, paid.meanFines());
        paid.addPerformer();
        check.same("with one more performer", 5.0 / 3.0, paid.meanFines());
    }

    private static void nobody() {
        check.refuses("a new object", ARITHMETIC, SilentOpera::new, SilentOpera::meanFines);
        check.refuses("without performers", ARITHMETIC, () -> Stage.rich(0),
                SilentOpera::meanFines);
        check.refuses("the first one is undone", ARITHMETIC, () -> Stage.then(Stage.with(1),
                SilentOpera::undo), SilentOpera::meanFines);
    }

    private static void hushedShare() {
        SilentOpera opera = new SilentOpera();
        opera.cueHush(2, 2);
        opera.cueHush(3, 1);
        opera.cueHush(6, 9);
        int[] hushed = {0, 1, 2, 2, 2, 3};
        for (int beat = 1; beat <= hushed.length; beat++) {
            opera.advance(1);
            check.same(hushed[beat - 1] + " of " + beat, (float) hushed[beat - 1] / (float) beat,
                    opera.hushedShare());
        }
        opera.turnAct();
        check.same("the act changes no beat that has passed", 0.5f, opera.hushedShare());
        opera.advance(1);
        check.same("3 of 7", 3.0f / 7.0f, opera.hushedShare());
        SilentOpera all = Stage.then(new SilentOpera(), it -> it.cueHush(1, 9));
        check.same("all of 9", 1.0f, Stage.pass(all, 9).hushedShare());
        check.same("9 of 10", 9.0f / 10.0f, Stage.pass(all, 1).hushedShare());
    }

    private static void noBeat() {
        check.refuses("a new object", ARITHMETIC, SilentOpera::new, SilentOpera::hushedShare);
        check.refuses("in the next act", ARITHMETIC, () -> Stage.then(new SilentOpera(),
                it -> it.cueHush(1, 9), SilentOpera::turnAct), SilentOpera::hushedShare);
        check.same("one beat", 0.0f, Stage.at(1).hushedShare());
        check.refuses("the first beat is undone", ARITHMETIC, () -> Stage.then(new SilentOpera(),
                it -> it.advance(1), SilentOpera::undo), SilentOpera::hushedShare);
    }

    private static void isConsistent() {
        check.isTrue("a new object", new SilentOpera().isConsistent());
        check.isTrue("no cue from the next beat on", Stage.at(199).isConsistent());
        for (int performers : new int[] {0, 1, 6}) {
            check.isTrue(performers + " performers", Stage.rich(performers).isConsistent());
        }
        SilentOpera opera = Stage.with(6);
        for (int performer = 0; performer < 6; performer++) {
            opera.cueMouth(performer % 2, 3 + performer % 3, 9);
            opera.cueProp(performer, 9 + performer, 9);
        }
        opera.cueHush(10, 2);
        opera.cueProp(0, 40, 7);
        opera.cueProp(0, 41, 7);
        for (int beat = 0; beat <= 41; beat++) {
            check.isTrue("beat " + beat, opera.isConsistent());
            opera.advance(1);
            opera.whisper(2, 3);
            Check.outcome(() -> opera.payFine(2, 5));
        }
    }

    private static void undo(Sentences document) {
        document.in("Promise 49");
        document.says("Undoes the latest change that has not been undone.",
                LineAndUndoTest::latestNotUndone);
        document.says("Returns the number of changes that can still be undone.",
                LineAndUndoTest::changesLeft);
        document.says("Throws `IllegalStateException` if there is no change to undo",
                LineAndUndoTest::noChangeToUndo);
    }

    private static void latestNotUndone() {
        SilentOpera opera = new SilentOpera();
        opera.advance(1);
        opera.advance(2);
        opera.undo();
        check.same("the latest one", 1, opera.now());
        opera.advance(4);
        opera.undo();
        check.same("the one after an undo", 1, opera.now());
        opera.undo();
        check.same("the one before an undo", 0, opera.now());
    }

    private static void changesLeft() {
        SilentOpera opera = new SilentOpera();
        opera.setLimit(0);
        check.same("undo of one", 0, opera.undo());
        for (int limit = 1; limit <= 8; limit++) {
            opera.setLimit(limit);
        }
        check.same("undo of eight", 7, opera.undo());
        opera.setLimit(9);
        opera.setLimit(10);
        check.same("undo of nine", 7, opera.undo());
        check.same("undo", 6, opera.undo());
        opera.setLimit(9);
        check.same("undo", 6, opera.undo());
        // 30 changes and 10 undone ones, so that the rows of a ring are used over and over.
        for (int round = 0; round < 10; round++) {
            opera.setLimit(11);
            opera.setLimit(12);
            opera.setLimit(13);
            int left = Math.min(6 + 2 * round + 3, 8) - 1;
            check.same("undo in round " + round, left, opera.undo());
            check.same("the limit in round " + round, 12, opera.setLimit(12));
            opera.undo();
        }
    }

    private static void noChangeToUndo() {
        check.refuses("a new object", BAD_STATE, SilentOpera::new, SilentOpera::undo);
        Check.Setting one = () -> Stage.then(new SilentOpera(), it -> it.setLimit(3));
        check.same("one change", 0, one.make().undo());
        check.refuses("one change is undone", BAD_STATE, () -> Stage.then(one.make(),
                SilentOpera::undo), SilentOpera::undo);
        check.refuses("after eight", BAD_STATE, () -> {
            SilentOpera opera = Stage.rich(2);
            for (int undo = 0; undo < 8; undo++) {
                opera.undo();
            }
            return opera;
        }, SilentOpera::undo);
        check.refuses("after restore", BAD_STATE, LineAndUndoTest::changeable, SilentOpera::undo);
    }

    private static void snapshot(Sentences document) {
        document.in("Promise 50");
        document.says("Saves everything that changes can change as the snapshot, replacing an"
                + " earlier snapshot.", LineAndUndoTest::save);
        document.says("Returns the number of pending cues.", LineAndUndoTest::cuesSaved);

        document.in("Promise 51");
        document.says("Restores the snapshot, which is kept.", LineAndUndoTest::snapshotIsKept);
        document.says("After the call no change can be undone.", LineAndUndoTest::nothingToUndo);
        document.says("Returns the number of pending cues.", LineAndUndoTest::cuesRestored);
        document.says("Throws `IllegalStateException` if there is no snapshot",
                LineAndUndoTest::noSnapshot);
    }

    private static void save() {
        Check.Setting saved = () -> Stage.then(changeable(), it -> it.setLimit(9),
                it -> it.cueHush(30, 1), SilentOpera::save);
        SilentOpera opera = saved.make();
        String before = Probe.of(saved.make());
        Stage.then(opera, CHANGES).restore();
        check.same("as saved", before, Probe.of(opera));
        check.same("the limit as saved", 9, opera.setLimit(9));
        SilentOpera twice = Stage.then(new SilentOpera(), SilentOpera::save, it -> it.advance(1),
                SilentOpera::save, it -> it.advance(1), SilentOpera::restore);
        check.same("the later snapshot", 1, twice.now());
        SilentOpera undone = Stage.then(new SilentOpera(), it -> it.advance(1), SilentOpera::save,
                SilentOpera::undo, SilentOpera::restore);
        check.same("undo leaves the snapshot", 1, undone.now());
        check.same("changes before save can be undone", 0, Stage.then(new SilentOpera(),
                it -> it.advance(1), SilentOpera::save).undo());
    }

    private static void cuesSaved() {
        for (int cues : new int[] {0, 1, 15, 16}) {
            SilentOpera opera = Stage.withProps(cues);
            check.same(cues + " cues", cues, opera.save());
            opera.advance(2);
            check.same("one has happened", Math.max(cues - 1, 0), opera.save());
        }
    }

    private static void snapshotIsKept() {
        SilentOpera opera = Stage.withProps(2);
        opera.save();
        for (int round = 0; round < 3; round++) {
            check.same("restore", 2, opera.restore());
            check.same("now", 0, opera.now());
            check.same("the first cue", 2, opera.cueBeat(0));
            opera.cancelCue(1);
            opera.advance(2);
        }
    }

    private static void nothingToUndo() {
        for (int changes : new int[] {0, 1, 8, 9}) {
            SilentOpera opera = new SilentOpera();
            opera.save();
            for (int change = 0; change < changes; change++) {
                opera.advance(1);
            }
            opera.restore();
            check.same("after " + changes + " changes", "IllegalStateException",
                    Check.outcome(opera::undo));
            opera.advance(1);
            opera.advance(1);
            check.same("changes after restore", 1, Check.outcome(opera::undo));
            check.same("changes after restore", 0, Check.outcome(opera::undo));
            check.same("before restore", "IllegalStateException", Check.outcome(opera::undo));
        }
    }

    private static void cuesRestored() {
        for (int cues : new int[] {0, 1, 15, 16}) {
            SilentOpera opera = Stage.withProps(cues);
            opera.save();
            opera.advance(40);
            check.same(cues + " cues", cues, opera.restore());
            check.same("cueCount", cues, opera.cueCount());
        }
    }

    private static void noSnapshot() {
        check.refuses("a new object", BAD_STATE, SilentOpera::new, SilentOpera::restore);
        check.refuses("changes alone", BAD_STATE, () -> Stage.withFines(9, 3),
                SilentOpera::restore);
        check.same("a snapshot of nothing", 0, Stage.then(new SilentOpera(),
                SilentOpera::save).restore());
    }
}
