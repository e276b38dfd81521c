import java.io.IOException;
import java.util.NoSuchElementException;

/** Promises 24 to 37: noise, hushes, the passing of beats, acts, forecasts and totals. */
public final class BeatsTest {
    private static final Check check = new Check();
    private static final Bounds bounds = new Bounds(check);

    public static void main(String[] args) throws IOException {
        Sentences document = new Sentences(check);
        noiseAndHushes(document);
        beatsAndActs(document);
        forecasts(document);
        totals(document);
        document.end();
    }

    private static void noiseAndHushes(Sentences document) {
        document.in("Promise 24");
        document.saysToo("Sets the noise limit.");
        document.says("- `limit`: the new limit, 0 to 30", BeatsTest::limits);
        document.says("Returns the previous limit.", BeatsTest::previousLimit);
        document.says("Throws `IllegalArgumentException` if the limit is not from 0 to 30",
                () -> bounds.notFrom("limit", 0, 30, () -> Stage.rich(1), SilentOpera::setLimit));

        document.in("Promise 25");
        document.says("Returns the noise that a beat will have by the pending props.",
                BeatsTest::noiseAt);
        document.says("- `beat`: any beat", BeatsTest::noiseAtAnyBeat);
        document.says("Returns the noise, 0 without pending props at this beat.",
                BeatsTest::noNoise);

        document.in("Promise 26");
        document.says("Returns whether a beat is hushed by the hush that has begun or by pending"
                + " hushes.", BeatsTest::isHushed);
        document.says("- `beat`: any beat from the current one on", BeatsTest::isHushedFromNowOn);
        document.says("Returns whether the beat is hushed; false for a beat before the current"
                + " one.", BeatsTest::pastBeatsAreNotHushed);

        document.in("Promise 27");
        document.says("Returns the beat with the greatest noise by the pending props.",
                BeatsTest::loudestBeat);
        document.says("If several beats have the greatest noise, the earliest one is returned.",
                BeatsTest::earliestLoudestBeat);
        document.saysToo("Returns the beat.");
        document.says("Throws `NoSuchElementException` if no prop is pending",
                BeatsTest::noPropIsPending);
    }

    private static void limits() {
        bounds.takesJust("limit", 0, 30, () -> Stage.rich(1), SilentOpera::setLimit);
    }

    private static void previousLimit() {
        SilentOpera opera = Stage.with(1);
        int before = 6;
        for (int limit : new int[] {0, 30, 30, 1, 29, 6}) {
            check.same("previous limit", before, opera.setLimit(limit));
            before = limit;
        }
        Check.outcome(() -> opera.setLimit(31));
        check.same("after a refused one", 6, opera.setLimit(0));
        opera.undo();
        check.same("after an undone one", 6, opera.setLimit(0));
    }

    private static void noiseAt() {
        SilentOpera opera = Stage.with(2);
        opera.cueProp(0, 3, 9);
        check.same("one", 9, opera.noiseAt(3));
        opera.cueProp(1, 3, 8);
        check.same("two", 17, opera.noiseAt(3));
        int prop = opera.cueProp(0, 4, 1);
        check.same("the next beat", 1, opera.noiseAt(4));
        opera.moveCue(prop, 3);
        check.same("moved", 18, opera.noiseAt(3));
        opera.cancelCue(prop);
        check.same("cancelled", 17, opera.noiseAt(3));
        SilentOpera full = Stage.with(1);
        for (int cue = 0; cue < 16; cue++) {
            full.cueProp(0, 199, 9);
        }
        check.same("16 props", 144, full.noiseAt(199));
    }

    private static void noiseAtAnyBeat() {
        SilentOpera opera = Stage.withProps(2);
        for (int beat : new int[] {Integer.MIN_VALUE, -2, -1, 0, 1, 3, 5, 198, 199, 200,
            Integer.MAX_VALUE}) {
            check.same("noise at " + beat, 0, opera.noiseAt(beat));
        }
        check.same("noise at 2", 1, opera.noiseAt(2));
        check.same("noise at 4", 1, opera.noiseAt(4));
    }

    private static void noNoise() {
        SilentOpera opera = Stage.with(1);
        check.same("no cues", 0, opera.noiseAt(0));
        opera.cueMouth(0, 3, 5);
        opera.cueHush(3, 4);
        check.same("no props", 0, opera.noiseAt(3));
        opera.cueProp(0, 3, 5);
        for (int beat = 2; beat <= 4; beat++) {
            check.same("noise at " + beat, beat == 3 ? 5 : 0, opera.noiseAt(beat));
        }
        opera.advance(2);
        check.same("a beat before", 5, opera.noiseAt(3));
        opera.advance(1);
        check.same("happened props", 0, opera.noiseAt(3));
    }

    /** Compares isHushed() for the beats from the current one to 20 with those that are due. */
    private static void hushed(String what, SilentOpera opera, int... beats) {
        StringBuilder due = new StringBuilder();
        for (int beat : beats) {
            due.append(beat).append(' ');
        }
        StringBuilder got = new StringBuilder();
        for (int beat = opera.now(); beat <= 20; beat++) {
            got.append(opera.isHushed(beat) ? beat + " " : "");
        }
        check.same("hushed, " + what, due.toString(), got.toString());
    }

    private static void isHushed() {
        SilentOpera opera = new SilentOpera();
        hushed("no hush", opera);
        opera.cueHush(4, 3);
        opera.cueHush(10, 1);
        hushed("pending", opera, 4, 5, 6, 10);
        opera.advance(4);
        hushed("begun and pending", opera, 4, 5, 6, 10);
        opera.cancelCue(1);
        hushed("begun", opera, 4, 5, 6);
        opera.cueHush(6, 2);
        hushed("both", opera, 4, 5, 6, 7);
        opera.moveCue(2, 9);
        hushed("moved", opera, 4, 5, 6, 9, 10);
        opera.turnAct();
        hushed("only pending after the act", opera, 9, 10);
    }

    private static void isHushedFromNowOn() {
        SilentOpera opera = new SilentOpera();
        opera.cueHush(199, 9);
        for (int beat : new int[] {0, 198, 208, Integer.MAX_VALUE}) {
            check.same("pending, " + beat, false, opera.isHushed(beat));
        }
        check.same("pending, 199", true, opera.isHushed(199));
        check.same("pending, 207", true, opera.isHushed(207));
        Stage.pass(opera, 199);
        check.same("begun, 199", true, opera.isHushed(199));
        check.same("begun, 207", true, opera.isHushed(207));
        check.same("begun, 208", false, opera.isHushed(208));
        check.same("begun, highest", false, opera.isHushed(Integer.MAX_VALUE));
    }

    private static void pastBeatsAreNotHushed() {
        SilentOpera opera = new SilentOpera();
        check.same("-1 in a new object", false, opera.isHushed(-1));
        check.same("lowest in a new object", false, opera.isHushed(Integer.MIN_VALUE));
        opera.cueHush(1, 9);
        for (int now = 1; now <= 9; now++) {
            opera.advance(1);
            check.same("the beat before " + now, false, opera.isHushed(now - 1));
            check.same("the current beat " + now, true, opera.isHushed(now));
            check.same("lowest", false, opera.isHushed(Integer.MIN_VALUE));
        }
    }

    private static void loudestBeat() {
        SilentOpera opera = Stage.with(2);
        opera.cueProp(0, 199, 1);
        check.same("one prop of the least noise", 199, opera.loudestBeat());
        opera.cueProp(0, 29, 3);
        opera.cueProp(0, 28, 2);
        check.same("neither first nor last", 29, opera.loudestBeat());
        opera.cueProp(1, 28, 1);
        opera.cueProp(1, 28, 1);
        check.same("by the sum", 28, opera.loudestBeat());
        opera.cueHush(27, 9);
        opera.cueMouth(0, 27, 9);
        check.same("hushes and mouths make no noise", 28, opera.loudestBeat());
        opera.advance(28);
        check.same("pending props only", 29, opera.loudestBeat());
    }

    private static void earliestLoudestBeat() {
        for (int first : new int[] {7, 9}) {
            SilentOpera opera = Stage.with(2);
            opera.cueProp(0, first, 5);
            opera.cueProp(1, 16 - first, 5);
            check.same("two", 7, opera.loudestBeat());
            opera.cueProp(1, 5, 2);
            opera.cueProp(1, 5, 3);
            check.same("an earlier one", 5, opera.loudestBeat());
            opera.cueProp(1, 3, 4);
            check.same("one that has less", 5, opera.loudestBeat());
            opera.cueProp(1, 9, 1);
            check.same("one that has more", 9, opera.loudestBeat());
        }
    }

    private static void noPropIsPending() {
        Class<? extends RuntimeException> due = NoSuchElementException.class;
        check.refuses("no cues", due, SilentOpera::new, SilentOpera::loudestBeat);
        check.refuses("a mouth and a hush", due, () -> Stage.then(Stage.with(1),
                opera -> opera.cueMouth(0, 1, 9), opera -> opera.cueHush(1, 9)),
                SilentOpera::loudestBeat);
        check.same("a beat before the last one happens", 2,
                Stage.pass(Stage.withProps(1), 1).loudestBeat());
        check.refuses("all have happened", due, () -> Stage.pass(Stage.withProps(1), 2),
                SilentOpera::loudestBeat);
        check.refuses("all are cancelled", due, () -> Stage.then(Stage.withProps(1),
                opera -> opera.cancelCue(0)), SilentOpera::loudestBeat);
    }

    private static void beatsAndActs(Sentences document) {
        document.in("Promise 28");
        document.saysToo("Lets beats pass.");
        document.says("- `beats`: the number of beats, 1 to 40", BeatsTest::beatsPass);
        document.says("Returns the number of cues that happened.", BeatsTest::cuesHappen);
        document.says("Throws `IllegalArgumentException` if the number of beats is not from 1 to"
                + " 40", () -> {
                    bounds.notFrom("beats", 1, 40, () -> Stage.rich(1), SilentOpera::advance);
                    bounds.notFrom("beats", 1, 40, () -> Stage.at(199), SilentOpera::advance);
                });

        document.in("Promise 29");
        document.says("Begins the next act: the hush that has begun ends, and all mouths are"
                + " closed.", BeatsTest::turnAct);
        document.says("Pending cues stay pending.", BeatsTest::cuesStayPending);
        document.says("Returns the number of the new act.", BeatsTest::numberOfAct);
        document.says("Throws `IllegalStateException` if the act is 3", BeatsTest::lastAct);

        document.in("Promise 30");
        document.saysToo("Returns the current beat.");
        document.says("Returns the beat, initially 0.", BeatsTest::now);

        document.in("Promise 31");
        document.saysToo("Returns the current act.");
        document.says("Returns the act, initially 0.", BeatsTest::act);
    }

    private static void beatsPass() {
        for (int beats = 1; beats <= 40; beats++) {
            SilentOpera opera = Stage.at(20);
            opera.advance(beats);
            check.same("beats", 20 + beats, opera.now());
        }
        bounds.takesJust("beats", 1, 40, () -> Stage.at(20), SilentOpera::advance);
    }

    private static void cuesHappen() {
        SilentOpera opera = Stage.with(1);
        opera.cueProp(0, 2, 1);
        opera.cueMouth(0, 3, 1);
        opera.cueHush(3, 1);
        opera.cueHush(41, 1);
        opera.cueHush(42, 1);
        check.same("none", 0, opera.advance(1));
        check.same("one", 1, opera.advance(1));
        check.same("the last of 39 beats", 3, opera.advance(39));
        check.same("the first of 40 beats", 1, opera.advance(40));
        check.same("none is left", 0, opera.advance(40));
        SilentOpera full = Stage.with(1);
        for (int cue = 0; cue < 16; cue++) {
            full.cueProp(0, 1 + cue % 2 * 39, 1);
        }
        check.same("16", 16, full.advance(40));
    }

    private static void turnAct() {
        SilentOpera opera = Stage.with(6);
        for (int performer = 0; performer < 6; performer++) {
            opera.cueMouth(performer, 1, 9);
        }
        opera.cueHush(1, 9);
        opera.advance(1);
        opera.turnAct();
        for (int performer = 0; performer < 6; performer++) {
            check.same("mouth " + performer, false, opera.isMouthing(performer));
        }
        hushed("the hush ends", opera);
        check.same("whisper", 0, opera.whisper(0, 3));
        check.same("the beat stays", 1, opera.now());
        opera.cueMouth(0, 2, 1);
        opera.cueHush(2, 2);
        opera.advance(1);
        check.same("no clash with a closed mouth", 0, opera.clashCount());
        hushed("the later hush counts alone", opera, 2, 3);
    }

    private static void cuesStayPending() {
        SilentOpera opera = Stage.with(2);
        opera.cueMouth(0, 2, 2);
        opera.cueHush(5, 2);
        opera.cueProp(1, 6, 1);
        opera.advance(1);
        opera.turnAct();
        check.same("cues", 3, opera.cueCount());
        hushed("a pending hush stays", opera, 5, 6);
        opera.advance(1);
        check.same("the mouth opens", true, opera.isMouthing(0));
        opera.advance(4);
        check.same("noise in the pending hush", 1, opera.fines(1));
    }

    private static void numberOfAct() {
        SilentOpera opera = new SilentOpera();
        for (int act = 1; act <= 3; act++) {
            check.same("turnAct", act, opera.turnAct());
            check.same("act", act, opera.act());
        }
    }

    private static SilentOpera inAct(int act) {
        SilentOpera opera = Stage.rich(1);
        while (opera.act() < act) {
            opera.turnAct();
        }
        return opera;
    }

    private static void lastAct() {
        check.same("in act 2", 3, inAct(2).turnAct());
        check.refuses("in act 3", IllegalStateException.class, () -> inAct(3),
                SilentOpera::turnAct);
        check.refuses("with a hush and a mouth in act 3", IllegalStateException.class,
                () -> Stage.then(inAct(3), opera -> opera.cueHush(4, 9),
                        opera -> opera.cueMouth(0, 4, 9), opera -> opera.advance(1)),
                SilentOpera::turnAct);
        check.same("the last one is undone", 3, Stage.then(inAct(3),
                SilentOpera::undo).turnAct());
    }

    private static void now() {
        SilentOpera opera = new SilentOpera();
        check.same("at first", 0, opera.now());
        opera.advance(1);
        check.same("after 1", 1, opera.now());
        opera.advance(40);
        check.same("after 40", 41, opera.now());
        Check.outcome(() -> opera.advance(41));
        check.same("after a refused one", 41, opera.now());
        opera.turnAct();
        check.same("in the next act", 41, opera.now());
    }

    private static void act() {
        SilentOpera opera = new SilentOpera();
        check.same("at first", 0, opera.act());
        opera.advance(40);
        check.same("after 40 beats", 0, opera.act());
        for (int act : new int[] {1, 2, 3, 3}) {
            Check.outcome(opera::turnAct);
            check.same("act", act, opera.act());
        }
    }

    private interface Forecast {
        int of(SilentOpera opera, int performer, int beats);
    }

    private static void forecasts(Sentences document) {
        document.in("Promise 32");
        document.says("Returns how many coins of fines would be imposed on a performer if beats"
                + " passed and nothing else happened, found by letting them pass on a copy.",
                () -> finesToCome(SilentOpera::finesAfter));
        document.saysToo("- `performer`: the performer");
        document.says("- `beats`: the number of beats, 0 to 40",
                () -> beatsOfForecast(SilentOpera::finesAfter));
        document.says("Returns the number of coins, without the fines owed now.",
                () -> withoutFinesOwed(SilentOpera::finesAfter));
        document.says("Throws `IndexOutOfBoundsException` if there is no such performer",
                () -> bounds.noSuchPerformer((opera, who) -> opera.finesAfter(who, 40)));
        document.says("Throws `IllegalArgumentException` if the number of beats is not from 0 to"
                + " 40", () -> bounds.notFrom("beats", 0, 40, () -> Stage.rich(1),
                        (opera, beats) -> opera.finesAfter(0, beats)));

        document.in("Promise 33");
        document.says("Returns the same number as finesAfter(), found from the pending props and"
                + " hushes alone.", () -> {
                    finesToCome(SilentOpera::finesAfterByCues);
                    withoutFinesOwed(SilentOpera::finesAfterByCues);
                });
        document.saysToo("- `performer`: the performer");
        document.says("- `beats`: the number of beats, 0 to 40",
                () -> beatsOfForecast(SilentOpera::finesAfterByCues));
        document.saysToo("Returns the number of coins.");
        document.says("Throws `IndexOutOfBoundsException` if there is no such performer",
                () -> bounds.noSuchPerformer((opera, who) -> opera.finesAfterByCues(who, 40)));
        document.says("Throws `IllegalArgumentException` if the number of beats is not from 0 to"
                + " 40", () -> bounds.notFrom("beats", 0, 40, () -> Stage.rich(1),
                        (opera, beats) -> opera.finesAfterByCues(0, beats)));
    }

    private static SilentOpera noisy() {
        SilentOpera opera = Stage.with(3);
        opera.cueProp(0, 2, 6);
        opera.cueProp(1, 2, 1);
        opera.cueProp(0, 5, 3);
        opera.cueHush(4, 2);
        opera.cueProp(1, 6, 3);
        opera.cueProp(0, 7, 6);
        opera.cueProp(0, 41, 9);
        return opera;
    }

    private static void finesToCome(Forecast forecast) {
        int[][] due = {{0, 0, 0}, {0, 1, 0}, {0, 2, 6}, {0, 4, 6}, {0, 5, 9}, {0, 40, 9},
            {1, 1, 0}, {1, 2, 1}, {1, 40, 1}, {2, 40, 0}};
        for (int[] row : due) {
            SilentOpera opera = noisy();
            check.same("fines of " + row[0] + " after " + row[1], row[2],
                    forecast.of(opera, row[0], row[1]));
            check.sameAfter("forecast", Aftermath.of(BeatsTest::noisy), Aftermath.of(() ->
                    Stage.then(noisy(), it -> forecast.of(it, row[0], row[1]))));
        }
        SilentOpera begun = Stage.pass(noisy(), 4);
        check.same("in a hush that has begun", 3, forecast.of(begun, 0, 1));
        begun.turnAct();
        check.same("the hush has ended", 0, forecast.of(begun, 0, 1));
        begun.setLimit(2);
        check.same("a lower limit", 3, forecast.of(begun, 0, 1));
        begun.setLimit(3);
        check.same("the noise is the limit", 0, forecast.of(begun, 0, 1));
        SilentOpera later = Stage.with(1);
        later.cueProp(0, 3, 1);
        later.cueHush(4, 9);
        check.same("a hush that begins a beat later", 0, forecast.of(later, 0, 40));
        later.moveCue(1, 3);
        check.same("a hush that begins with the prop", 1, forecast.of(later, 0, 40));
        SilentOpera last = Stage.at(198);
        last.cueHush(199, 1);
        check.same("the last beat for a cue", 1, forecast.of(last, 0, 1));
        last.advance(1);
        check.same("no cue is left", 0, forecast.of(last, 0, 40));
    }

    private static void beatsOfForecast(Forecast forecast) {
        bounds.takesJust("beats", 0, 40, () -> Stage.rich(1),
                (opera, beats) -> forecast.of(opera, 0, beats));
        check.same("0 beats", 0, forecast.of(Stage.rich(1), 0, 0));
        for (int now = 0; now <= 1; now++) {
            SilentOpera opera = Stage.pass(Stage.with(1), now);
            opera.cueProp(0, 41, 9);
            opera.cueProp(0, 1 + now, 8);
            check.same("0 beats before the first cue", 0, forecast.of(opera, 0, 0));
            check.same("1 beat", 8, forecast.of(opera, 0, 1));
            check.same("39 beats from " + now, 8, forecast.of(opera, 0, 39));
            check.same("40 beats from " + now, now == 1 ? 17 : 8, forecast.of(opera, 0, 40));
        }
    }

    private static void withoutFinesOwed(Forecast forecast) {
        SilentOpera opera = Stage.withFines(9, 5);
        check.same("nothing to come", 0, forecast.of(opera, 0, 40));
        opera.cueProp(0, 3, 7);
        check.same("a prop to come", 7, forecast.of(opera, 0, 40));
        check.same("nothing to come for the other one", 0, forecast.of(opera, 1, 40));
        opera.payFine(0, 9);
        check.same("all is paid", 7, forecast.of(opera, 0, 40));
    }

    private static void totals(Sentences document) {
        document.in("Promise 34");
        document.says("Returns the number of cues that happened so far.",
                BeatsTest::happenedCount);
        document.saysToo("Returns the number of cues.");

        document.in("Promise 35");
        document.says("Returns the number of mouths that were opened while they were open so far.",
                BeatsTest::clashCount);
        document.saysToo("Returns the number of mouths.");

        document.in("Promise 36");
        document.says("Returns the number of coins of fines imposed so far.",
                BeatsTest::imposedTotal);
        document.saysToo("Returns the number of coins.");

        document.in("Promise 37");
        document.says("Returns the number of coins of fines paid so far.", BeatsTest::paidTotal);
        document.saysToo("Returns the number of coins.");
    }

    private static void happenedCount() {
        SilentOpera opera = Stage.with(1);
        check.same("none", 0, opera.happenedCount());
        opera.cueProp(0, 2, 1);
        opera.cueHush(2, 1);
        opera.cueMouth(0, 3, 1);
        opera.cancelCue(opera.cueMouth(0, 3, 1));
        opera.advance(1);
        check.same("a beat before", 0, opera.happenedCount());
        opera.advance(1);
        check.same("two", 2, opera.happenedCount());
        opera.finesAfter(0, 40);
        check.same("a forecast", 2, opera.happenedCount());
        opera.advance(40);
        check.same("three", 3, opera.happenedCount());
    }

    private static void clashCount() {
        SilentOpera opera = Stage.with(2);
        opera.cueMouth(0, 1, 1);
        opera.cueMouth(0, 1, 1);
        opera.cueMouth(0, 1, 3);
        opera.cueMouth(1, 1, 1);
        opera.cueMouth(0, 3, 1);
        opera.cueMouth(0, 4, 1);
        check.same("none", 0, opera.clashCount());
        opera.advance(1);
        check.same("at the same beat", 2, opera.clashCount());
        opera.advance(2);
        check.same("at the last beat", 3, opera.clashCount());
        opera.advance(1);
        check.same("after the last beat", 3, opera.clashCount());
    }

    private static void imposedTotal() {
        check.same("none", 0, Stage.withFines(0, 0).imposedTotal());
        SilentOpera opera = Stage.withFines(5, 7);
        check.same("by props", 12, opera.imposedTotal());
        opera.cueHush(2, 1);
        opera.advance(1);
        opera.whisper(0, 1);
        check.same("by whispers", 14, opera.imposedTotal());
        opera.payFine(0, 7);
        check.same("paying changes nothing", 14, opera.imposedTotal());
    }

    private static void paidTotal() {
        SilentOpera opera = Stage.withFines(5, 7);
        check.same("none", 0, opera.paidTotal());
        opera.payFine(0, 1);
        check.same("one coin", 1, opera.paidTotal());
        opera.payFine(1, 7);
        check.same("of all performers", 8, opera.paidTotal());
        Check.outcome(() -> opera.payFine(1, 1));
        check.same("a refused one", 8, opera.paidTotal());
    }
}
