/** Promises 24 to 37: noise, hushes, the passing of beats, acts, forecasts and totals. */
public final class BeatsTest {
    private static final Check check = new Check();

    public static void main(String[] args) {
        promise24SetLimit();
        promise25NoiseAt();
        promise26IsHushed();
        promise27LoudestBeat();
        promise28Advance();
        promise28Mouths();
        promise28Hushes();
        promise28Props();
        promise29TurnAct();
        promises30And31NowAndAct();
        promises32And33Forecasts();
        promise34HappenedCount();
        promise35ClashCount();
        promises36And37Totals();
        check.end();
    }

    private static void promise24SetLimit() {
        SilentOpera opera = Stage.with(1);
        check.same("initial limit", 6, opera.setLimit(0));
        check.same("lowest limit", 0, opera.setLimit(30));
        check.same("highest limit", 30, opera.setLimit(30));
        check.badArgument("limit 31", opera, () -> opera.setLimit(31));
        check.badArgument("limit -1", opera, () -> opera.setLimit(-1));
        check.same("limit stays", 30, opera.setLimit(5));
    }

    private static void promise25NoiseAt() {
        SilentOpera opera = Stage.with(2);
        opera.cueProp(0, 3, 9);
        opera.cueProp(1, 3, 8);
        opera.cueProp(0, 4, 1);
        opera.cueMouth(0, 3, 5);
        opera.cueHush(3, 4);
        check.same("noise at 3", 17, opera.noiseAt(3));
        check.same("noise at 4", 1, opera.noiseAt(4));
        check.same("noise at 5", 0, opera.noiseAt(5));
        check.same("noise at -1", 0, opera.noiseAt(-1));
        check.same("noise at lowest", 0, opera.noiseAt(Integer.MIN_VALUE));
        check.same("noise at highest", 0, opera.noiseAt(Integer.MAX_VALUE));
        check.same("noise at 0", 0, opera.noiseAt(0));
        opera.advance(3);
        check.same("happened props", 0, opera.noiseAt(3));
        opera.cancelCue(2);
        check.same("cancelled props", 0, opera.noiseAt(4));
    }

    private static void promise26IsHushed() {
        SilentOpera opera = new SilentOpera();
        check.same("at 0", false, opera.isHushed(0));
        opera.cueHush(4, 3);
        opera.cueHush(10, 1);
        hushed("pending", opera, 4, 5, 6, 10);
        opera.advance(5);
        hushed("begun", opera, 5, 6, 10);
        opera.cancelCue(1);
        hushed("cancelled", opera, 5, 6);
        opera.advance(2);
        hushed("over", opera);
        check.same("highest beat", false, opera.isHushed(Integer.MAX_VALUE));
        check.same("lowest beat", false, opera.isHushed(Integer.MIN_VALUE));
        opera.cueHush(199, 9);
        check.same("beyond the last cue beat", true, opera.isHushed(207));
        check.same("beat 208", false, opera.isHushed(208));
    }

    private static void hushed(String what, SilentOpera opera, int... beats) {
        StringBuilder due = new StringBuilder();
        for (int beat : beats) {
            due.append(beat).append(' ');
        }
        StringBuilder got = new StringBuilder();
        for (int beat = -3; beat < 60; beat++) {
            got.append(opera.isHushed(beat) ? beat + " " : "");
        }
        check.same("hushed, " + what, due.toString(), got.toString());
    }

    private static void promise27LoudestBeat() {
        SilentOpera opera = Stage.with(2);
        check.noElement("no cues", opera, opera::loudestBeat);
        opera.cueProp(0, 30, 1);
        check.same("first cue, least noise", 30, opera.loudestBeat());
        opera.cueProp(0, 29, 3);
        opera.cueProp(0, 28, 2);
        check.same("neither first nor last", 29, opera.loudestBeat());
        opera.cancelCue(1);
        opera.cancelCue(2);
        opera.cancelCue(0);
        opera.cueMouth(0, 1, 9);
        opera.cueHush(1, 9);
        check.noElement("no props", opera, opera::loudestBeat);
        opera.cueProp(0, 9, 5);
        check.same("one prop", 9, opera.loudestBeat());
        opera.cueProp(1, 7, 5);
        check.same("earliest of two", 7, opera.loudestBeat());
        opera.cueProp(1, 8, 4);
        opera.cueProp(0, 8, 2);
        check.same("by the sum", 8, opera.loudestBeat());
        opera.advance(8);
        check.same("pending only", 9, opera.loudestBeat());
        opera.advance(1);
        check.noElement("all happened", opera, opera::loudestBeat);
    }

    private static void promise28Advance() {
        SilentOpera opera = Stage.with(1);
        opera.cueProp(0, 1, 1);
        opera.cueMouth(0, 2, 1);
        opera.cueHush(2, 1);
        opera.cueHush(41, 1);
        opera.cueHush(42, 1);
        check.same("one beat", 1, opera.advance(1));
        check.same("40 beats", 3, opera.advance(40));
        check.same("now", 41, opera.now());
        check.badArgument("no beats", opera, () -> opera.advance(0));
        check.badArgument("41 beats", opera, () -> opera.advance(41));
        check.badArgument("-1 beats", opera, () -> opera.advance(-1));
        check.badArgument("most beats", opera, () -> opera.advance(Integer.MAX_VALUE));
        check.same("the last cue", 1, opera.advance(40));
        check.same("nothing", 0, opera.advance(40));
    }

    private static void promise28Mouths() {
        SilentOpera opera = Stage.with(1);
        opera.cueMouth(0, 1, 9);
        opera.cueMouth(0, 2, 1);
        opera.advance(9);
        check.same("the longer mouth counts", true, opera.isMouthing(0));
        opera.advance(1);
        check.same("closed", false, opera.isMouthing(0));
        opera.cueMouth(0, 11, 2);
        opera.cueMouth(0, 13, 2);
        opera.cueMouth(0, 14, 3);
        opera.advance(3);
        check.same("closes before the next opens", 1, opera.clashCount());
        opera.advance(3);
        check.same("clash at 14 lengthens", true, opera.isMouthing(0));
        check.same("clashes", 2, opera.clashCount());
        opera.advance(1);
        check.same("closed again", false, opera.isMouthing(0));
    }

    private static void promise28Hushes() {
        SilentOpera opera = new SilentOpera();
        opera.cueHush(1, 9);
        opera.cueHush(2, 1);
        opera.cueHush(8, 4);
        opera.advance(3);
        hushed("the later end counts", opera, 3, 4, 5, 6, 7, 8, 9, 10, 11);
        opera.cancelCue(2);
        hushed("the begun hush stays", opera, 3, 4, 5, 6, 7, 8, 9);
        opera.cueHush(6, 9);
        opera.advance(4);
        hushed("lengthened", opera, 7, 8, 9, 10, 11, 12, 13, 14);
    }

    private static void promise28Props() {
        SilentOpera opera = Stage.with(3);
        opera.cueProp(0, 1, 6);
        opera.cueProp(0, 2, 6);
        opera.cueProp(1, 2, 1);
        opera.cueProp(2, 3, 1);
        opera.cueHush(3, 1);
        opera.cueProp(2, 4, 1);
        opera.advance(1);
        check.same("noise 6, limit 6", 0, opera.fines(0));
        opera.advance(1);
        check.same("noise 7, limit 6", 6, opera.fines(0));
        check.same("each prop", 1, opera.fines(1));
        opera.advance(1);
        check.same("hushed in its first beat", 1, opera.fines(2));
        opera.advance(1);
        check.same("after the hush", 1, opera.fines(2));
        opera.setLimit(0);
        opera.cueProp(1, 5, 1);
        opera.advance(1);
        check.same("limit 0", 2, opera.fines(1));
        opera.setLimit(30);
        for (int cue = 0; cue < 3; cue++) {
            opera.cueProp(cue, 6, 9);
        }
        opera.cueProp(0, 6, 3);
        opera.advance(1);
        check.same("noise 30, limit 30", 6, opera.fines(0));
        for (int cue = 0; cue < 3; cue++) {
            opera.cueProp(cue, 7, 9);
        }
        opera.cueProp(0, 7, 4);
        opera.advance(1);
        check.same("noise 31, limit 30", 19, opera.fines(0));
    }

    private static void promise29TurnAct() {
        SilentOpera opera = Stage.with(2);
        opera.cueMouth(0, 1, 9);
        opera.cueHush(1, 9);
        opera.cueHush(5, 2);
        opera.cueProp(1, 6, 1);
        opera.cueProp(1, 7, 1);
        opera.advance(1);
        check.same("act 1", 1, opera.turnAct());
        check.same("mouths are closed", false, opera.isMouthing(0));
        hushed("only the pending hush", opera, 5, 6);
        check.same("cues stay", 3, opera.cueCount());
        check.same("the beat stays", 1, opera.now());
        opera.cueMouth(0, 2, 1);
        opera.advance(6);
        check.same("no clash with a closed mouth", 0, opera.clashCount());
        check.same("fined in the later hush only", 1, opera.fines(1));
        check.same("act 2", 2, opera.turnAct());
        check.same("act 3", 3, opera.turnAct());
        check.badState("no act 4", opera, opera::turnAct);
    }

    private static void promises30And31NowAndAct() {
        SilentOpera opera = new SilentOpera();
        check.same("now", 0, opera.now());
        check.same("act", 0, opera.act());
        opera.turnAct();
        for (int call = 1; call <= 6; call++) {
            opera.advance(40);
            check.same("now", 40 * call, opera.now());
        }
        check.same("act", 1, opera.act());
    }

    private static void promises32And33Forecasts() {
        SilentOpera opera = Stage.with(3);
        opera.cueProp(0, 2, 6);
        opera.cueProp(1, 2, 1);
        opera.cueProp(0, 5, 3);
        opera.cueHush(4, 2);
        opera.cueProp(1, 6, 3);
        opera.cueProp(0, 41, 9);
        forecast(opera, 0, 0, 0);
        forecast(opera, 0, 1, 0);
        forecast(opera, 0, 2, 6);
        forecast(opera, 0, 4, 6);
        forecast(opera, 0, 5, 9);
        forecast(opera, 0, 40, 9);
        forecast(opera, 1, 40, 1);
        forecast(opera, 2, 40, 0);
        opera.advance(4);
        forecast(opera, 0, 40, 12);
        forecast(opera, 0, 36, 3);
        opera.turnAct();
        forecast(opera, 0, 40, 9);
        opera.setLimit(2);
        forecast(opera, 1, 40, 3);
        check.same("nothing has passed", 4, opera.now());
        wrongForecasts(opera);
    }

    private static void forecast(SilentOpera opera, int performer, int beats, int due) {
        String what = "fines of " + performer + " after " + beats;
        String before = Probe.of(opera);
        check.same(what, due, opera.finesAfter(performer, beats));
        check.same(what + " by cues", due, opera.finesAfterByCues(performer, beats));
        check.same(what + " change nothing", before, Probe.of(opera));
    }

    private static void wrongForecasts(SilentOpera opera) {
        for (int performer : new int[] {-1, 3, 6}) {
            check.noIndex("performer " + performer, opera, () -> opera.finesAfter(performer, -1));
            check.noIndex("performer " + performer + " by cues", opera,
                    () -> opera.finesAfterByCues(performer, 41));
        }
        for (int beats : new int[] {-1, 41, Integer.MIN_VALUE, Integer.MAX_VALUE}) {
            check.badArgument(beats + " beats", opera, () -> opera.finesAfter(0, beats));
            check.badArgument(beats + " beats by cues", opera,
                    () -> opera.finesAfterByCues(0, beats));
        }
    }

    private static void promise34HappenedCount() {
        SilentOpera opera = Stage.with(1);
        check.same("none", 0, opera.happenedCount());
        opera.cueProp(0, 1, 1);
        opera.cueHush(1, 1);
        opera.cueMouth(0, 2, 1);
        opera.cueMouth(0, 3, 1);
        opera.cancelCue(3);
        check.same("pending", 0, opera.happenedCount());
        opera.advance(1);
        check.same("two", 2, opera.happenedCount());
        opera.advance(5);
        check.same("three", 3, opera.happenedCount());
    }

    private static void promise35ClashCount() {
        SilentOpera opera = Stage.with(2);
        opera.cueMouth(0, 1, 1);
        opera.cueMouth(0, 1, 1);
        opera.cueMouth(0, 1, 3);
        opera.cueMouth(1, 1, 1);
        opera.cueMouth(0, 3, 1);
        opera.cueMouth(0, 4, 1);
        opera.advance(1);
        check.same("same beat", 2, opera.clashCount());
        opera.advance(2);
        check.same("last beat", 3, opera.clashCount());
        opera.advance(1);
        check.same("after it", 3, opera.clashCount());
    }

    private static void promises36And37Totals() {
        SilentOpera opera = Stage.withFines(5, 7);
        check.same("imposed by props", 12, opera.imposedTotal());
        check.same("paid nothing", 0, opera.paidTotal());
        opera.cueHush(2, 1);
        opera.advance(1);
        opera.whisper(0, 3);
        check.same("imposed by whispers", 18, opera.imposedTotal());
        opera.payFine(0, 4);
        opera.payFine(1, 7);
        check.same("paid", 11, opera.paidTotal());
        check.same("imposed stays", 18, opera.imposedTotal());
    }
}
