import java.io.IOException;

/** The terms of the document: beats, performers, cues and what happens when a beat passes. */
public final class TermsTest {
    private static final Check check = new Check();
    private static final Bounds bounds = new Bounds(check);

    public static void main(String[] args) throws IOException {
        Sentences document = new Sentences(check);
        beatsAndPerformers(document);
        cues(document);
        mouthsAndHushes(document);
        props(document);
        document.end();
    }

    private static void beatsAndPerformers(Sentences document) {
        document.in("Beats");
        document.saysToo("Time is counted in beats.");
        document.says("The current beat is initially 0.", TermsTest::firstBeat);
        document.says("A cue can be added at, or moved to, a beat if this beat is greater than the"
                + " current beat and at most 199.", TermsTest::beatsForCues);
        document.says("The current beat can become greater than 199.", TermsTest::beatsAfter199);

        document.in("Performers");
        document.says("There are at most 6 performers, numbered from 0.",
                TermsTest::mostPerformers);
        document.saysToo("A performer owes fines in coins, and has a mouth that is open or closed.");
    }

    private static void firstBeat() {
        SilentOpera opera = Stage.with(1);
        check.same("now", 0, opera.now());
        check.same("a cue at 0", "IllegalArgumentException",
                Check.outcome(() -> opera.cueProp(0, 0, 1)));
        check.same("a cue at 1", 0, opera.cueProp(0, 1, 1));
        check.same("it happens first", 1, opera.advance(1));
    }

    private static void beatsForCues() {
        Bounds.NumberCall[] calls = {(opera, beat) -> opera.cueMouth(0, beat, 1),
            (opera, beat) -> opera.cueProp(0, beat, 1), (opera, beat) -> opera.cueHush(beat, 1),
            (opera, beat) -> opera.moveCue(0, beat)};
        for (int call = 0; call < calls.length; call++) {
            for (int now : new int[] {0, 7, 197, 198}) {
                bounds.takesJust("call " + call + " at " + now + ", beat", now + 1, 199,
                        () -> Stage.at(now), calls[call]);
            }
        }
        for (int call = 0; call < 3; call++) {
            bounds.noBeatIsLeft(calls[call]);
        }
    }

    private static void beatsAfter199() {
        SilentOpera opera = Stage.at(198);
        for (int beat = 199; beat <= 202; beat++) {
            opera.advance(1);
            check.same("now", beat, opera.now());
        }
        SilentOpera far = new SilentOpera();
        for (int call = 0; call < 510; call++) {
            far.advance(40);
        }
        check.same("as far as 510 calls reach", 20400, far.now());
        SilentOpera hush = new SilentOpera();
        hush.cueHush(199, 9);
        Stage.pass(hush, 207);
        check.same("a hush goes on after 199", true, hush.isHushed(207));
        hush.advance(1);
        check.same("and ends", false, hush.isHushed(208));
    }

    private static void mostPerformers() {
        SilentOpera opera = new SilentOpera();
        for (int number = 0; number < 6; number++) {
            check.same("a performer", number, opera.addPerformer());
            check.same("owes nothing", 0, opera.fines(number));
        }
        check.refuses("a seventh", IllegalStateException.class, () -> Stage.with(6),
                SilentOpera::addPerformer);
    }

    private static void cues(Sentences document) {
        document.in("Cues");
        document.saysToo("A cue is a mouth, a prop or a hush.",
                "A mouth has a performer and a length.", "A prop has a performer and a loudness.",
                "A hush has a length.");
        document.says("At most 16 cues are pending.", TermsTest::mostCues);
        document.says("The first cue has the id 0, and each further cue has the id of the cue added"
                + " before it plus 1.", TermsTest::ids);
        document.says("The cue order is ascending by beat, and ascending by id for the same beat.",
                TermsTest::cueOrder);
        document.says("A cue is pending until it happens or is cancelled.", TermsTest::pending);
        document.says("A cue that is moved keeps its id.", TermsTest::movedIds);
    }

    private static void mostCues() {
        Check.Act[] adding = {opera -> opera.cueMouth(0, 199, 1), opera -> opera.cueProp(0, 199, 1),
            opera -> opera.cueHush(199, 1)};
        for (Check.Act add : adding) {
            SilentOpera opera = Stage.with(1);
            for (int cue = 0; cue < 16; cue++) {
                check.same("a cue", cue, add.on(opera));
            }
            check.same("16 cues", 16, opera.cueCount());
            check.same("a 17th", "IllegalStateException", Check.outcome(() -> add.on(opera)));
            check.same("16 cues", 16, opera.cueCount());
            opera.undo();
            check.same("a 16th again", 15, add.on(opera));
        }
        SilentOpera typed = Stage.type(Stage.withProps(15), "hush 9 1;hush 9 1");
        check.same("a 17th by a command", "IllegalStateException", Check.outcome(typed::run));
        check.same("none of the commands", 15, typed.cueCount());
    }

    private static void ids() {
        check.same("first a mouth", 0, Stage.with(1).cueMouth(0, 1, 1));
        check.same("first a prop", 0, Stage.with(1).cueProp(0, 1, 1));
        check.same("first a hush", 0, new SilentOpera().cueHush(1, 1));
        SilentOpera opera = Stage.with(1);
        opera.cueHush(1, 1);
        check.same("a prop after a hush", 1, opera.cueProp(0, 9, 1));
        check.same("a mouth after a prop", 2, opera.cueMouth(0, 9, 1));
        opera.cancelCue(2);
        check.same("after the last is cancelled", 3, opera.cueProp(0, 9, 1));
        opera.advance(1);
        check.same("after one has happened", 4, opera.cueProp(0, 9, 1));
        Check.outcome(() -> opera.cueProp(0, 1, 1));
        check.same("after a refused one", 5, opera.cueProp(0, 9, 1));
        opera.moveCue(1, 8);
        check.same("after one is moved", 6, opera.cueProp(0, 9, 1));
        opera.turnAct();
        opera.advance(9);
        check.same("after all have happened", 7, opera.cueProp(0, 11, 1));
        opera.undo();
        check.same("after an undone one", 7, opera.cueProp(0, 11, 1));
        SilentOpera many = new SilentOpera();
        for (int id = 0; id < 250; id++) {
            check.same("id", id, many.cueHush(199, 1));
            many.cancelCue(id);
        }
    }

    private static void cueOrder() {
        SilentOpera opera = new SilentOpera();
        for (int beat : new int[] {199, 5, 1, 5, 2, 5, 199, 1}) {
            opera.cueHush(beat, 1);
        }
        order("added", opera, 2, 7, 4, 1, 3, 5, 0, 6);
        opera.moveCue(0, 5);
        order("a lower id comes first at its new beat", opera, 2, 7, 4, 0, 1, 3, 5, 6);
        opera.moveCue(6, 1);
        order("between the others of its new beat", opera, 2, 6, 7, 4, 0, 1, 3, 5);
        opera.moveCue(1, 6);
        opera.moveCue(1, 5);
        order("there and back", opera, 2, 6, 7, 4, 0, 1, 3, 5);
    }

    private static void order(String what, SilentOpera opera, int... due) {
        for (int rank = 0; rank < due.length; rank++) {
            check.same(what + ", rank " + rank, due[rank], opera.cueAt(rank));
        }
    }

    private static void pending() {
        SilentOpera opera = Stage.with(1);
        opera.cueProp(0, 3, 1);
        opera.cueHush(3, 1);
        opera.cueMouth(0, 4, 1);
        opera.advance(2);
        check.same("a beat before", 3, opera.cueCount());
        check.same("the prop", 3, opera.cueBeat(0));
        opera.advance(1);
        check.same("two have happened", 1, opera.cueCount());
        check.same("the prop is not pending", "NoSuchElementException",
                Check.outcome(() -> opera.cueBeat(0)));
        check.same("the hush is not pending", "NoSuchElementException",
                Check.outcome(() -> opera.cueBeat(1)));
        check.same("the mouth", 4, opera.cueBeat(2));
        opera.cancelCue(2);
        check.same("the mouth is not pending", "NoSuchElementException",
                Check.outcome(() -> opera.cueBeat(2)));
        check.same("cancelled ones do not happen", 0, opera.advance(1));
        check.same("happened", 2, opera.happenedCount());
    }

    private static void movedIds() {
        SilentOpera opera = Stage.withProps(3);
        opera.moveCue(0, 199);
        opera.moveCue(2, 1);
        check.same("beat of 0", 199, opera.cueBeat(0));
        check.same("beat of 1", 4, opera.cueBeat(1));
        check.same("beat of 2", 1, opera.cueBeat(2));
        order("moved", opera, 2, 1, 0);
    }

    private static void mouthsAndHushes(Sentences document) {
        document.in("Passing beats");
        document.says("When a beat passes, the following happens in this order.",
                TermsTest::allAtOneBeat);
        document.says("First, the current beat increases by 1.", TermsTest::oneBeat);
        document.saysToo("Let b be the new current beat.");
        document.says("Second, each mouth that is open closes if its last beat is less than b.",
                TermsTest::mouthsClose);
        document.says("Third, each hush at b happens: the beats from b to b plus its length minus 1"
                + " are hushed from now on; a hush that has begun before stays in force, so that the"
                + " later end counts.", () -> {
                    hushesBegin();
                    laterEndCounts();
                });
        document.says("Fourth, each mouth at b happens, in cue order: if the mouth of the performer"
                + " is open, this is a clash.", TermsTest::clashes);
        document.says("The mouth is then open, and its last beat is the greater one of b plus the"
                + " length minus 1 and its previous last beat if it was open.",
                TermsTest::laterLastBeat);
    }

    private static void allAtOneBeat() {
        SilentOpera opera = Stage.with(2);
        opera.cueProp(1, 3, 1);
        opera.cueMouth(0, 3, 1);
        opera.cueHush(3, 1);
        opera.cueMouth(0, 2, 1);
        check.same("beat 2", 1, opera.advance(2));
        check.same("beat 3", 3, opera.advance(1));
        check.same("the mouth has closed before it opens", 0, opera.clashCount());
        check.same("the mouth has opened after it closed", true, opera.isMouthing(0));
        check.same("the hush has begun before the prop drops", 1, opera.fines(1));
    }

    private static void oneBeat() {
        SilentOpera opera = Stage.withProps(3);
        for (int beat = 1; beat <= 7; beat++) {
            int due = beat % 2 == 0 && beat <= 6 ? 1 : 0;
            check.same("cues at " + beat, due, opera.advance(1));
            check.same("now", beat, opera.now());
        }
        check.same("each beat is passed", 3, Stage.withProps(3).advance(6));
    }

    private static void mouthsClose() {
        for (int length : new int[] {1, 2, 9}) {
            SilentOpera opera = Stage.with(2);
            opera.cueMouth(0, 2, length);
            opera.cueMouth(1, 3, length);
            opera.advance(1);
            check.same("before", false, opera.isMouthing(0));
            for (int beat = 2; beat <= 13; beat++) {
                opera.advance(1);
                check.same(length + " from 2, at " + beat, beat < 2 + length,
                        opera.isMouthing(0));
                check.same(length + " from 3, at " + beat, beat >= 3 && beat < 3 + length,
                        opera.isMouthing(1));
            }
        }
    }

    private static void hushesBegin() {
        for (int length : new int[] {1, 2, 9}) {
            SilentOpera opera = Stage.with(1);
            opera.cueHush(2, length);
            for (int beat = 1; beat <= 12; beat++) {
                opera.advance(1);
                boolean isHushed = beat >= 2 && beat < 2 + length;
                check.same(length + " from 2, at " + beat, isHushed, opera.isHushed(beat));
                check.same("whisper at " + beat, isHushed ? 2 : 0, opera.whisper(0, 1));
            }
        }
    }

    private static void laterEndCounts() {
        int[][] due = {{2, 1, 9}, {5, 4, 9}, {5, 5, 9}, {5, 6, 10}, {9, 1, 9}, {9, 2, 10}};
        for (int[] row : due) {
            SilentOpera opera = Stage.with(1);
            opera.cueHush(1, 9);
            opera.cueHush(row[0], row[1]);
            hushedTo(row[0] + " for " + row[1], row[2], opera);
        }
        for (int longer = 0; longer < 2; longer++) {
            SilentOpera opera = Stage.with(1);
            opera.cueHush(1, longer == 0 ? 7 : 3);
            opera.cueHush(1, longer == 1 ? 7 : 3);
            hushedTo("two at the same beat", 7, opera);
        }
        SilentOpera apart = Stage.with(1);
        apart.cueHush(1, 2);
        apart.cueHush(4, 2);
        apart.advance(3);
        check.same("between two hushes", 0, apart.whisper(0, 1));
        apart.advance(1);
        hushedTo("the second of two", 5, apart);
    }

    /** The beats from the next one, or the current one, to the last one are hushed, and no more. */
    private static void hushedTo(String what, int last, SilentOpera opera) {
        while (opera.now() < 13) {
            opera.advance(1);
            int beat = opera.now();
            check.same(what + ", whisper at " + beat, beat <= last ? 2 : 0, opera.whisper(0, 1));
            for (int later = beat; later <= 13; later++) {
                check.same(what + ", " + later + " at " + beat, later <= last,
                        opera.isHushed(later));
            }
        }
    }

    private static void clashes() {
        int[][] due = {{1, 2, 1}, {1, 3, 0}, {2, 3, 1}, {2, 4, 0}, {9, 10, 1}, {9, 11, 0}};
        for (int[] row : due) {
            SilentOpera opera = Stage.with(2);
            opera.cueMouth(0, 2, row[0]);
            opera.cueMouth(0, row[1], 1);
            opera.cueMouth(1, row[1], 1);
            opera.advance(12);
            check.same(row[0] + " from 2 and one at " + row[1], row[2], opera.clashCount());
        }
        SilentOpera opera = Stage.with(2);
        for (int mouth = 0; mouth < 5; mouth++) {
            opera.cueMouth(mouth == 3 ? 1 : 0, 1, 1);
        }
        opera.advance(1);
        check.same("four at the same beat", 3, opera.clashCount());
    }

    private static void laterLastBeat() {
        int[][] due = {{2, 3, 5}, {2, 4, 5}, {2, 5, 6}, {5, 1, 5}, {5, 2, 6}, {1, 4, 5}, {1, 6, 6}};
        for (int[] row : due) {
            SilentOpera opera = Stage.with(1);
            opera.cueMouth(0, 1, 5);
            opera.cueMouth(0, row[0], row[1]);
            opera.advance(row[2]);
            check.same(row[0] + " for " + row[1] + ", last beat", true, opera.isMouthing(0));
            opera.advance(1);
            check.same(row[0] + " for " + row[1] + ", then", false, opera.isMouthing(0));
        }
        SilentOpera closed = Stage.with(1);
        closed.cueMouth(0, 1, 9);
        closed.cueMouth(0, 2, 1);
        closed.advance(1);
        closed.turnAct();
        closed.advance(1);
        check.same("opens again", true, closed.isMouthing(0));
        closed.advance(1);
        check.same("a closed mouth has no last beat", false, closed.isMouthing(0));
    }

    private static void props(Sentences document) {
        document.says("Fifth, the props at b happen.", TermsTest::propsHappen);
        document.says("The noise of the beat is the sum of their loudness.", TermsTest::noise);
        document.says("If the noise is greater than 0 when b is hushed, or greater than the limit"
                + " when b is not hushed, each of these props imposes a fine of its loudness on its"
                + " performer.", () -> {
                    noiseInHushes();
                    noiseOverLimit();
                    eachProp();
                });
        document.says("The limit is from 0 to 30, initially 6.", TermsTest::limits);
        document.says("Fines for whispers are imposed fines, too.", TermsTest::whispers);
    }

    private static void propsHappen() {
        SilentOpera opera = Stage.with(1);
        opera.cueProp(0, 3, 9);
        opera.cueProp(0, 4, 9);
        check.same("the beats before", 0, opera.advance(2));
        check.same("no fine yet", 0, opera.fines(0));
        check.same("its beat", 1, opera.advance(1));
        check.same("its fine", 9, opera.fines(0));
        check.same("the other one is pending", 1, opera.cueCount());
    }

    /** At limit 6 and at beat 1, props of these loudnesses, each of another performer. */
    private static SilentOpera afterProps(int... loudness) {
        SilentOpera opera = Stage.with(loudness.length);
        for (int performer = 0; performer < loudness.length; performer++) {
            opera.cueProp(performer, 1, loudness[performer]);
        }
        opera.advance(1);
        return opera;
    }

    private static void noise() {
        check.same("3 and 3", 0, afterProps(3, 3).imposedTotal());
        check.same("3 and 4", 7, afterProps(3, 4).imposedTotal());
        check.same("six ones", 0, afterProps(1, 1, 1, 1, 1, 1).imposedTotal());
        check.same("five ones and a two", 7, afterProps(1, 1, 1, 1, 1, 2).imposedTotal());
        SilentOpera opera = Stage.with(1);
        opera.setLimit(30);
        for (int prop = 0; prop < 16; prop++) {
            opera.cueProp(0, 1, 9);
        }
        opera.advance(1);
        check.same("16 nines", 144, opera.fines(0));
        SilentOpera apart = Stage.with(1);
        apart.cueProp(0, 1, 4);
        apart.cueProp(0, 2, 4);
        apart.advance(2);
        check.same("at different beats", 0, apart.fines(0));
    }

    private static void noiseInHushes() {
        int[][] due = {{3, 0}, {4, 1}, {5, 1}, {6, 1}, {7, 0}};
        for (int[] row : due) {
            SilentOpera opera = Stage.with(1);
            opera.setLimit(30);
            opera.cueHush(4, 3);
            opera.cueProp(0, row[0], 1);
            opera.advance(8);
            check.same("hushed from 4 to 6, noise 1 at " + row[0], row[1], opera.fines(0));
        }
        SilentOpera ended = Stage.with(1);
        ended.cueHush(1, 9);
        ended.cueProp(0, 2, 6);
        ended.advance(1);
        ended.turnAct();
        ended.advance(1);
        check.same("a hush that the act has ended", 0, ended.fines(0));
    }

    private static void noiseOverLimit() {
        for (int limit : new int[] {0, 1, 5, 6, 7, 29, 30}) {
            check.same("the limit " + limit, 0, finesOfNoise(limit, limit));
            check.same("more than the limit " + limit, limit + 1, finesOfNoise(limit, limit + 1));
        }
    }

    private static int finesOfNoise(int limit, int noise) {
        SilentOpera opera = Stage.with(1);
        opera.setLimit(limit);
        for (int left = noise; left > 0; left -= 9) {
            opera.cueProp(0, 1, Math.min(left, 9));
        }
        opera.advance(1);
        return opera.fines(0);
    }

    private static void eachProp() {
        SilentOpera opera = afterProps(1, 5, 9);
        check.same("first", 1, opera.fines(0));
        check.same("second", 5, opera.fines(1));
        check.same("third", 9, opera.fines(2));
        SilentOpera twice = Stage.with(2);
        twice.cueProp(1, 1, 4);
        twice.cueProp(1, 1, 3);
        twice.cueMouth(0, 1, 9);
        twice.advance(1);
        check.same("two of the same performer", 7, twice.fines(1));
        check.same("mouths make no noise", 0, twice.fines(0));
    }

    private static void limits() {
        check.same("initial limit", 6, Stage.with(1).setLimit(0));
        check.same("noise 6 at first", 0, afterProps(6).fines(0));
        check.same("noise 7 at first", 7, afterProps(7).fines(0));
        bounds.takesJust("limit", 0, 30, () -> Stage.rich(1), SilentOpera::setLimit);
    }

    private static void whispers() {
        SilentOpera opera = Stage.with(1);
        opera.cueHush(1, 1);
        opera.whisper(0, 3);
        check.same("not hushed", 0, opera.imposedTotal());
        opera.advance(1);
        opera.whisper(0, 1);
        check.same("imposed by the least whisper", 2, opera.imposedTotal());
        opera.whisper(0, 3);
        check.same("imposed by the loudest one", 8, opera.imposedTotal());
        check.same("owed", 8, opera.fines(0));
    }
}
