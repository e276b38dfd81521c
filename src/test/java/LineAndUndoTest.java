/** Promises 43 to 51: the line, the statistics, the invariants, undo, save and restore. */
public final class LineAndUndoTest {
    private static final Check check = new Check();

    public static void main(String[] args) {
        promise43DescribeCue();
        promise44DescribePerformer();
        promise45LineAt();
        promise46MeanFines();
        promise47HushedShare();
        promise48IsConsistent();
        promise49UndoOfEachChange();
        promise49LatestEight();
        promise49NoChanges();
        promise50Save();
        promise51Restore();
        check.end();
    }

    private static void promise43DescribeCue() {
        SilentOpera opera = Stage.with(3);
        for (int cue = 0; cue < 4; cue++) {
            opera.cueHush(1, 1);
        }
        opera.cueProp(2, 17, 9);
        opera.cueHush(20, 3);
        opera.cueMouth(0, 199, 1);
        check.same("prop", "#4p2@17=9", Stage.line(opera, opera.describeCue(4)));
        check.same("hush", "#5h@20=3", Stage.line(opera, opera.describeCue(5)));
        check.same("mouth", "#6m0@199=1", Stage.line(opera, opera.describeCue(6)));
        for (int cue = 7; cue < 12; cue++) {
            opera.cueHush(9, 2);
        }
        check.same("two digits", "#11h@9=2", Stage.line(opera, opera.describeCue(11)));
        check.same("length", 7, opera.describeCue(0));
        check.noElement("unknown", opera, () -> opera.describeCue(12));
        check.noElement("id -1", opera, () -> opera.describeCue(-1));
        opera.advance(1);
        check.noElement("happened", opera, () -> opera.describeCue(0));
        check.same("the line stays", "#0h@1=1", Stage.line(opera, 7));
    }

    private static void promise44DescribePerformer() {
        SilentOpera opera = Stage.withFines(0, 9, 7);
        check.same("nothing", "0-", Stage.line(opera, opera.describePerformer(0)));
        check.same("fines", "1-!9", Stage.line(opera, opera.describePerformer(1)));
        opera.setLimit(0);
        opera.cueProp(2, 2, 7);
        opera.cueMouth(2, 2, 1);
        opera.cueMouth(0, 2, 1);
        opera.advance(1);
        check.same("mouth and fines", "2o!14", Stage.line(opera, opera.describePerformer(2)));
        check.same("mouth", "0o", Stage.line(opera, opera.describePerformer(0)));
        check.noIndex("no performer", opera, () -> opera.describePerformer(3));
        check.noIndex("performer -1", opera, () -> opera.describePerformer(-1));
    }

    private static void promise45LineAt() {
        SilentOpera opera = Stage.with(1);
        check.noIndex("empty line", opera, () -> opera.lineAt(0));
        opera.cueHush(120, 3);
        int length = opera.describeCue(0);
        check.same("length", 9, length);
        check.same("first", '#', opera.lineAt(0));
        check.same("last", '3', opera.lineAt(8));
        check.noIndex("behind the last", opera, () -> opera.lineAt(9));
        check.noIndex("index -1", opera, () -> opera.lineAt(-1));
        check.same("shorter", 2, opera.describePerformer(0));
        check.noIndex("the longer content is gone", opera, () -> opera.lineAt(2));
        opera.undo();
        opera.undo();
        check.same("not undone", "0-", Stage.line(opera, 2));
    }

    private static void promise46MeanFines() {
        SilentOpera opera = new SilentOpera();
        check.refuses("nobody", ArithmeticException.class, opera, opera::meanFines);
        opera.addPerformer();
        check.same("nothing owed", 0.0, opera.meanFines());
        check.same("a third", 13 / 3.0, Stage.withFines(2, 4, 7).meanFines());
        SilentOpera paid = Stage.withFines(2, 9);
        paid.payFine(1, 6);
        check.same("paid ones are gone", 2.5, paid.meanFines());
    }

    private static void promise47HushedShare() {
        SilentOpera opera = new SilentOpera();
        check.refuses("no beat", ArithmeticException.class, opera, opera::hushedShare);
        opera.cueHush(2, 2);
        opera.cueHush(3, 1);
        opera.cueHush(6, 9);
        opera.advance(1);
        check.same("no hush", 0.0f, opera.hushedShare());
        opera.advance(2);
        check.same("2 of 3", 2.0f / 3.0f, opera.hushedShare());
        opera.advance(3);
        check.same("3 of 6", 0.5f, opera.hushedShare());
        opera.turnAct();
        opera.advance(1);
        check.same("the hush has ended, 3 of 7", 3.0f / 7.0f, opera.hushedShare());
        opera.undo();
        check.same("undone", 0.5f, opera.hushedShare());
    }

    private static void promise48IsConsistent() {
        SilentOpera opera = new SilentOpera();
        check.isTrue("new", opera.isConsistent());
        for (int performer = 0; performer < 6; performer++) {
            opera.addPerformer();
            opera.cueMouth(performer % 2, 3 + performer % 3, 9);
            opera.cueProp(performer, 1 + performer, 9);
        }
        opera.cueHush(4, 9);
        check.isTrue("cues", opera.isConsistent());
        for (int beat = 1; beat <= 9; beat++) {
            opera.advance(1);
            opera.whisper(2, 3);
            check.isTrue("beat " + beat, opera.isConsistent());
        }
        opera.payFine(2, 9);
        check.isTrue("paid", opera.isConsistent());
    }

    private static void promise49UndoOfEachChange() {
        SilentOpera opera = Stage.withFines(5, 9);
        opera.cueMouth(0, 3, 4);
        opera.cueHush(2, 9);
        opera.advance(2);
        opera.cueProp(1, 9, 2);
        opera.cueMouth(0, 4, 2);
        undone("addPerformer", opera, opera::addPerformer);
        undone("payFine", opera, () -> opera.payFine(1, 3));
        undone("whisper", opera, () -> opera.whisper(1, 3));
        undone("cueMouth", opera, () -> opera.cueMouth(0, 9, 3));
        undone("cueProp", opera, () -> opera.cueProp(0, 9, 3));
        undone("cueHush", opera, () -> opera.cueHush(9, 3));
        undone("cancelCue", opera, () -> opera.cancelCue(4));
        undone("moveCue", opera, () -> opera.moveCue(4, 99));
        undone("advance", opera, () -> opera.advance(17));
        undone("turnAct", opera, opera::turnAct);
        undone("run", opera, () -> Stage.type(opera, "performer;limit 0;advance 40;act").run());
        opera.setLimit(5);
        opera.moveCue(4, 99);
        opera.setLimit(3);
        opera.undo();
        check.same("setLimit undone", 5, opera.setLimit(6));
        check.same("setLimit undone alone", 99, opera.cueBeat(4));
    }

    private static void undone(String what, SilentOpera opera, Check.Call change) {
        // So that no two of the changes begin with the same object.
        opera.moveCue(4, opera.cueBeat(4) + 1);
        String before = Probe.of(opera);
        check.isTrue(what + " is carried out", Check.outcome(change) instanceof Integer);
        check.isTrue(what + " changes something", !before.equals(Probe.of(opera)));
        opera.undo();
        check.same(what + " undone", before, Probe.of(opera));
    }

    private static void promise49LatestEight() {
        SilentOpera opera = new SilentOpera();
        check.badState("no change", opera, opera::undo);
        for (int cue = 0; cue < 12; cue++) {
            opera.cueHush(1, 1);
        }
        for (int left = 7; left >= 0; left--) {
            check.same("undo", left, opera.undo());
            check.same("cues", 4 + left, opera.cueCount());
        }
        check.badState("a ninth", opera, opera::undo);
        check.same("the next id is undone", 4, opera.cueHush(1, 1));
        check.same("after a new change", 0, opera.undo());
        for (int beat = 1; beat <= 8; beat++) {
            opera.advance(1);
        }
        opera.undo();
        opera.undo();
        opera.advance(9);
        check.same("undone ones make room", 6, opera.undo());
        check.same("now", 6, opera.now());
    }

    private static void promise49NoChanges() {
        SilentOpera opera = Stage.withFines(3);
        opera.cueHush(9, 1);
        Check.outcome(() -> opera.payFine(0, 4));
        Check.outcome(() -> opera.cueHush(0, 1));
        Check.outcome(() -> opera.moveCue(1, 0));
        Check.outcome(() -> opera.cancelCue(9));
        Check.outcome(() -> opera.setLimit(31));
        Check.outcome(() -> opera.advance(0));
        Check.outcome(() -> opera.whisper(0, 0));
        opera.append('x');
        Check.outcome(opera::run);
        opera.describePerformer(0);
        opera.save();
        check.same("refused calls are no changes", 5, opera.undo());
        check.same("the hush is undone", 0, opera.cueCount());
        opera.setLimit(6);
        check.same("a change without difference", 5, opera.undo());
    }

    private static void promise50Save() {
        SilentOpera opera = Stage.withFines(4, 0);
        check.same("no cue", 0, opera.save());
        opera.cueProp(0, 9, 1);
        opera.cueMouth(1, 2, 9);
        check.same("two cues", 2, opera.save());
        String saved = Probe.of(opera);
        check.same("save is no change", 7, opera.undo());
        opera.setLimit(1);
        opera.advance(20);
        opera.turnAct();
        opera.addPerformer();
        check.same("restore the later one", 2, opera.restore());
        check.same("as saved", saved, Probe.of(opera));
        check.same("limit as saved", 6, opera.setLimit(6));
    }

    private static void promise51Restore() {
        SilentOpera opera = Stage.with(2);
        check.badState("no snapshot", opera, opera::restore);
        opera.cueHush(5, 1);
        opera.save();
        opera.cueHush(6, 1);
        opera.cueHush(7, 1);
        check.same("restore", 1, opera.restore());
        check.badState("no undo after restore", opera, opera::undo);
        check.same("the next id is restored", 1, opera.cueHush(8, 1));
        check.same("a change after restore", 0, opera.undo());
        opera.advance(9);
        check.same("the snapshot is kept", 1, opera.restore());
        check.same("now", 0, opera.now());
        Stage.type(opera, "ac");
        opera.describeCue(0);
        opera.restore();
        check.same("the text is not restored", 3, opera.append('t'));
        check.same("the line is not restored", "#0h@5=1", Stage.line(opera, 7));
        check.same("the text runs", 1, opera.run());
        opera.undo();
        opera.turnAct();
        opera.undo();
        check.same("undo leaves the snapshot", 1, opera.restore());
    }
}
