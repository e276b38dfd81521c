import java.io.IOException;
import java.util.NoSuchElementException;

/** Promises 9 to 23: cues, their order, their parts and their conflicts. */
public final class CuesTest {
    private static final Class<NoSuchElementException> NO_ELEMENT = NoSuchElementException.class;

    private static final Check check = new Check();
    private static final Bounds bounds = new Bounds(check);

    public static void main(String[] args) throws IOException {
        Sentences document = new Sentences(check);
        addedCues(document);
        cancelledAndMovedCues(document);
        cueOrder(document);
        firstCues(document);
        partsOfCues(document);
        conflicts(document);
        document.end();
    }

    private static void addedCues(Sentences document) {
        document.in("Promise 9");
        document.saysToo("Adds a cue at which a performer opens the mouth for a number of beats.",
                "- `performer`: the performer", "- `beat`: the beat");
        document.says("- `length`: the number of beats, 1 to 9", CuesTest::lengthsOfMouths);
        document.says("Returns the id of the cue.",
                () -> idsOf(opera -> opera.cueMouth(0, 9, 1)));
        document.says("Throws `IndexOutOfBoundsException` if there is no such performer",
                () -> bounds.noSuchPerformer((opera, who) -> opera.cueMouth(who, 9, 1)));
        document.says("Throws `IllegalArgumentException` if the beat is not allowed, or the length"
                + " is not from 1 to 9", () -> badBeatOrSize((opera, beat, size) ->
                        opera.cueMouth(0, beat, size)));
        document.says("Throws `IllegalStateException` if 16 cues are pending",
                () -> bounds.sixteenPending(opera -> opera.cueMouth(0, 199, 1)));

        document.in("Promise 10");
        document.saysToo("Adds a cue at which a performer drops a prop.",
                "- `performer`: the performer", "- `beat`: the beat");
        document.says("- `loudness`: the loudness, 1 to 9", CuesTest::loudnessOfProps);
        document.says("Returns the id of the cue.",
                () -> idsOf(opera -> opera.cueProp(0, 9, 1)));
        document.says("Throws `IndexOutOfBoundsException` if there is no such performer",
                () -> bounds.noSuchPerformer((opera, who) -> opera.cueProp(who, 9, 1)));
        document.says("Throws `IllegalArgumentException` if the beat is not allowed, or the"
                + " loudness is not from 1 to 9", () -> badBeatOrSize((opera, beat, size) ->
                        opera.cueProp(0, beat, size)));
        document.says("Throws `IllegalStateException` if 16 cues are pending",
                () -> bounds.sixteenPending(opera -> opera.cueProp(0, 199, 1)));

        document.in("Promise 11");
        document.saysToo("Adds a cue at which a hush begins.", "- `beat`: the beat");
        document.says("- `length`: the number of beats, 1 to 9", CuesTest::lengthsOfHushes);
        document.says("Returns the id of the cue.", () -> idsOf(opera -> opera.cueHush(9, 1)));
        document.says("Throws `IllegalArgumentException` if the beat is not allowed, or the length"
                + " is not from 1 to 9", () -> badBeatOrSize((opera, beat, size) ->
                        opera.cueHush(beat, size)));
        document.says("Throws `IllegalStateException` if 16 cues are pending",
                () -> bounds.sixteenPending(opera -> opera.cueHush(199, 1)));
    }

    private interface Adding {
        Object on(SilentOpera opera, int beat, int size);
    }

    private static void badBeatOrSize(Adding adding) {
        bounds.beatNotAllowed((opera, beat) -> adding.on(opera, beat, 1));
        bounds.noBeatIsLeft((opera, beat) -> adding.on(opera, beat, 1));
        for (int beat : new int[] {4, 199}) {
            bounds.notFrom("size at " + beat + " of", 1, 9, () -> Stage.rich(1),
                    (opera, size) -> adding.on(opera, beat, size));
        }
        check.refuses("beat and size", IllegalArgumentException.class, () -> Stage.rich(1),
                opera -> adding.on(opera, 3, 10));
    }

    private static void idsOf(Check.Act add) {
        SilentOpera opera = Stage.with(1);
        for (int id = 0; id < 16; id++) {
            check.same("id", id, add.on(opera));
            check.same("the id is pending", 9, opera.cueBeat(id));
        }
    }

    private static void lengthsOfMouths() {
        bounds.takesJust("length", 1, 9, () -> Stage.rich(1),
                (opera, length) -> opera.cueMouth(0, 4, length));
        for (int length = 1; length <= 9; length++) {
            SilentOpera opera = Stage.with(1);
            check.same("length", length, opera.cueSize(opera.cueMouth(0, 5, length)));
            opera.advance(4 + length);
            check.same("last beat of " + length, true, opera.isMouthing(0));
            opera.advance(1);
            check.same("after the last beat of " + length, false, opera.isMouthing(0));
        }
    }

    private static void loudnessOfProps() {
        bounds.takesJust("loudness", 1, 9, () -> Stage.rich(1),
                (opera, loudness) -> opera.cueProp(0, 4, loudness));
        for (int loudness = 1; loudness <= 9; loudness++) {
            SilentOpera opera = Stage.with(1);
            check.same("loudness", loudness, opera.cueSize(opera.cueProp(0, 5, loudness)));
            check.same("noise", loudness, opera.noiseAt(5));
        }
    }

    private static void lengthsOfHushes() {
        bounds.takesJust("length", 1, 9, () -> Stage.rich(1),
                (opera, length) -> opera.cueHush(4, length));
        for (int length = 1; length <= 9; length++) {
            SilentOpera opera = Stage.with(1);
            check.same("length", length, opera.cueSize(opera.cueHush(5, length)));
            opera.advance(4 + length);
            check.same("last beat of " + length, 2, opera.whisper(0, 1));
            opera.advance(1);
            check.same("after the last beat of " + length, 0, opera.whisper(0, 1));
        }
    }

    private static void cancelledAndMovedCues(Sentences document) {
        document.in("Promise 12");
        document.says("Cancels a pending cue.", CuesTest::cancelledCuesAreGone);
        document.saysToo("- `cue`: the id of the cue");
        document.says("Returns the number of pending cues after the call.", CuesTest::cuesLeft);
        document.says("Throws `NoSuchElementException` if no pending cue has this id",
                () -> bounds.noPendingCue(SilentOpera::cancelCue));

        document.in("Promise 13");
        document.says("Moves a pending cue to another beat.", CuesTest::movedCues);
        document.saysToo("- `cue`: the id of the cue", "- `beat`: the new beat");
        document.says("Returns the previous beat.", CuesTest::previousBeat);
        document.says("Throws `NoSuchElementException` if no pending cue has this id",
                () -> bounds.noPendingCue((opera, cue) -> opera.moveCue(cue, 9)));
        document.says("Throws `IllegalArgumentException` if the beat is not allowed",
                () -> bounds.beatNotAllowed((opera, beat) -> opera.moveCue(0, beat)));

        document.in("Promise 14");
        document.says("Returns the number of pending cues.", CuesTest::cueCount);
        document.saysToo("Returns the number of cues.");
    }

    private static void cancelledCuesAreGone() {
        SilentOpera opera = Stage.with(1);
        opera.setLimit(0);
        opera.cueProp(0, 3, 5);
        opera.cueMouth(0, 3, 5);
        opera.cueHush(3, 5);
        for (int cue = 0; cue < 3; cue++) {
            opera.cancelCue(cue);
        }
        check.same("nothing happens", 0, opera.advance(3));
        check.same("no fine", 0, opera.fines(0));
        check.same("no mouth", false, opera.isMouthing(0));
        check.same("no hush", false, opera.isHushed(3));
        SilentOpera late = Stage.with(1);
        late.cueProp(0, 3, 5);
        late.advance(2);
        check.same("a beat before it happens", 0, late.cancelCue(0));
        check.same("it does not happen", 0, late.advance(1));
    }

    private static void cuesLeft() {
        SilentOpera opera = Stage.withProps(16);
        int left = 16;
        for (int cue : new int[] {7, 0, 15, 8, 1, 2, 14, 3, 13, 4, 12, 5, 11, 6, 10, 9}) {
            left--;
            check.same("cues left", left, opera.cancelCue(cue));
            check.same("cueCount", left, opera.cueCount());
        }
    }

    private static void movedCues() {
        SilentOpera opera = Stage.with(1);
        opera.cueProp(0, 5, 4);
        opera.cueMouth(0, 5, 3);
        opera.cueHush(5, 2);
        for (int cue = 0; cue < 3; cue++) {
            opera.moveCue(cue, 7 + cue);
            check.same("beat of " + cue, 7 + cue, opera.cueBeat(cue));
            check.same("size of " + cue, 4 - cue, opera.cueSize(cue));
        }
        check.same("kinds", "pmh", "" + opera.cueKind(0) + opera.cueKind(1) + opera.cueKind(2));
        check.same("nothing happens where they were", 0, opera.advance(6));
        check.same("they happen where they are", 3, opera.advance(3));
        SilentOpera full = Stage.withProps(16);
        check.same("with 16 cues", 32, full.moveCue(15, 1));
        check.same("still 16 cues", 16, full.cueCount());
        check.same("the moved one is first", 15, full.cueAt(0));
    }

    private static void previousBeat() {
        SilentOpera opera = Stage.with(1);
        opera.cueProp(0, 5, 4);
        int before = 5;
        for (int beat : new int[] {199, 199, 1, 1, 2, 198, 5}) {
            check.same("previous beat", before, opera.moveCue(0, beat));
            before = beat;
        }
        opera.advance(4);
        check.same("a beat before it happens", 5, opera.moveCue(0, 6));
    }

    private static void cueCount() {
        SilentOpera opera = Stage.with(1);
        for (int count = 0; count <= 16; count++) {
            check.same("added", count, opera.cueCount());
            Check.outcome(() -> opera.cueHush(9, 1));
        }
        check.same("a refused one", 16, opera.cueCount());
        opera.moveCue(0, 10);
        check.same("a moved one", 16, opera.cueCount());
        opera.cancelCue(1);
        check.same("a cancelled one", 15, opera.cueCount());
        opera.advance(8);
        check.same("a beat before they happen", 15, opera.cueCount());
        opera.advance(1);
        check.same("happened ones", 1, opera.cueCount());
        opera.advance(1);
        check.same("all happened", 0, opera.cueCount());
    }

    private static void cueOrder(Sentences document) {
        document.in("Promise 15");
        document.says("Returns the pending cue at a rank of the cue order.", CuesTest::cueAt);
        document.says("- `rank`: the rank, from 0", CuesTest::firstRank);
        document.saysToo("Returns the id of the cue.");
        document.says("Throws `NoSuchElementException` if there is no such rank",
                CuesTest::noSuchRank);
    }

    private static void cueAt() {
        SilentOpera opera = Stage.with(1);
        for (int beat : new int[] {9, 3, 9, 1, 3, 199, 9}) {
            opera.cueProp(0, beat, 1);
        }
        order("added", opera, 3, 1, 4, 0, 2, 6, 5);
        opera.cancelCue(0);
        order("cancelled", opera, 3, 1, 4, 2, 6, 5);
        opera.moveCue(5, 3);
        order("moved", opera, 3, 1, 4, 5, 2, 6);
        opera.advance(1);
        order("happened", opera, 1, 4, 5, 2, 6);
    }

    private static void order(String what, SilentOpera opera, int... due) {
        for (int rank = 0; rank < due.length; rank++) {
            check.same(what + ", rank " + rank, due[rank], opera.cueAt(rank));
        }
        check.same(what + ", behind the last rank", "NoSuchElementException",
                Check.outcome(() -> opera.cueAt(due.length)));
    }

    private static void firstRank() {
        SilentOpera opera = Stage.with(1);
        opera.cueHush(4, 1);
        check.same("rank 0 of one", 0, opera.cueAt(0));
        opera.cueHush(3, 1);
        check.same("rank 0 of two", 1, opera.cueAt(0));
        check.same("rank 1 of two", 0, opera.cueAt(1));
        check.refuses("rank -1", NO_ELEMENT, () -> Stage.rich(1), it -> it.cueAt(-1));
    }

    private static void noSuchRank() {
        for (int cues : new int[] {0, 1, 15, 16}) {
            bounds.indexBelow("rank", NO_ELEMENT, cues, () -> Stage.withProps(cues),
                    SilentOpera::cueAt);
        }
    }

    private interface First {
        int of(SilentOpera opera, int beat);
    }

    private static void firstCues(Sentences document) {
        document.in("Promise 16");
        document.says("Returns the first pending cue, in cue order, whose beat is at least a given"
                + " beat.", () -> firstFrom(SilentOpera::firstCueFrom));
        document.says("It is found in a sorted tree.", CuesTest::treesOfAllShapes);
        document.says("- `beat`: any beat", () -> firstFromAnyBeat(SilentOpera::firstCueFrom));
        document.saysToo("Returns the id of the cue.");
        document.says("Throws `NoSuchElementException` if there is no such cue",
                () -> noFirstFrom(SilentOpera::firstCueFrom));

        document.in("Promise 17");
        document.says("Returns the same cue as firstCueFrom(), found by comparing all pending"
                + " cues.", () -> firstFrom(SilentOpera::firstCueFromByScan));
        document.says("- `beat`: any beat", () -> firstFromAnyBeat(
                SilentOpera::firstCueFromByScan));
        document.saysToo("Returns the id of the cue.");
        document.says("Throws `NoSuchElementException` if there is no such cue",
                () -> noFirstFrom(SilentOpera::firstCueFromByScan));
    }

    private static void firstFrom(First first) {
        SilentOpera opera = new SilentOpera();
        for (int beat : new int[] {20, 10, 30, 20, 10}) {
            opera.cueHush(beat, 1);
        }
        int[][] due = {{9, 1}, {10, 1}, {11, 0}, {19, 0}, {20, 0}, {21, 2}, {29, 2}, {30, 2}};
        for (int[] row : due) {
            check.same("from " + row[0], row[1], first.of(opera, row[0]));
        }
        opera.moveCue(1, 40);
        check.same("a moved one, from its old beat", 4, first.of(opera, 10));
        check.same("a moved one, from its new beat", 1, first.of(opera, 40));
        opera.cancelCue(0);
        check.same("without a cancelled one", 3, first.of(opera, 20));
        opera.moveCue(4, 20);
        check.same("the same beat, by id", 3, first.of(opera, 20));
        opera.moveCue(3, 21);
        check.same("the other one is left", 4, first.of(opera, 20));
        opera.moveCue(3, 20);
        check.same("the lower id comes first again", 3, first.of(opera, 20));
        opera.advance(20);
        check.same("without happened ones", 2, first.of(opera, 20));
    }

    private static void firstFromAnyBeat(First first) {
        SilentOpera opera = new SilentOpera();
        opera.cueHush(2, 1);
        opera.cueHush(199, 1);
        opera.advance(1);
        for (int beat : new int[] {Integer.MIN_VALUE, -1, 0, 1, 2}) {
            check.same("from " + beat, 0, first.of(opera, beat));
        }
        for (int beat : new int[] {3, 198, 199}) {
            check.same("from " + beat, 1, first.of(opera, beat));
        }
        for (int beat : new int[] {200, Integer.MAX_VALUE}) {
            check.same("from " + beat, "NoSuchElementException",
                    Check.outcome(() -> first.of(opera, beat)));
        }
    }

    private static void noFirstFrom(First first) {
        for (int beat : new int[] {Integer.MIN_VALUE, 0, 1, Integer.MAX_VALUE}) {
            check.refuses("without cues, from " + beat, NO_ELEMENT, SilentOpera::new,
                    opera -> first.of(opera, beat));
        }
        Check.Setting one = () -> Stage.then(new SilentOpera(), opera -> opera.cueHush(9, 1));
        check.same("from its beat", 0, first.of(one.make(), 9));
        check.refuses("from the next beat", NO_ELEMENT, one, opera -> first.of(opera, 10));
        check.refuses("after it has happened", NO_ELEMENT, () -> Stage.pass(one.make(), 9),
                opera -> first.of(opera, 0));
        check.refuses("after it is cancelled", NO_ELEMENT,
                () -> Stage.then(one.make(), opera -> opera.cancelCue(0)),
                opera -> first.of(opera, 0));
        check.refuses("behind many", NO_ELEMENT, () -> Stage.rich(2),
                opera -> first.of(opera, 24));
    }

    /** Trees that lean to one side, and trees that lose cues at their root and inside. */
    private static void treesOfAllShapes() {
        SilentOpera rising = new SilentOpera();
        SilentOpera falling = new SilentOpera();
        for (int cue = 0; cue < 16; cue++) {
            rising.cueHush(cue + 1, 1);
            falling.cueHush(16 - cue, 1);
        }
        for (int beat = 1; beat <= 16; beat++) {
            check.same("rising, from " + beat, beat - 1, rising.firstCueFrom(beat));
            check.same("falling, from " + beat, 16 - beat, falling.firstCueFrom(beat));
        }
        for (int lost = 0; lost < 7; lost++) {
            SilentOpera opera = new SilentOpera();
            for (int beat : new int[] {40, 20, 60, 10, 30, 50, 70}) {
                opera.cueHush(beat, 1);
            }
            opera.cancelCue(lost);
            sameByScan("without " + lost, opera);
            opera.moveCue(lost == 0 ? 1 : 0, 35);
            sameByScan("without " + lost + " and with one moved", opera);
        }
    }

    private static void sameByScan(String what, SilentOpera opera) {
        for (int beat = 0; beat <= 71; beat += 5) {
            int from = beat;
            check.same(what + ", from " + beat, Check.outcome(() -> opera.firstCueFromByScan(from)),
                    Check.outcome(() -> opera.firstCueFrom(from)));
        }
    }

    private static void partsOfCues(Sentences document) {
        document.in("Promise 18");
        document.says("Returns the beat of a pending cue.", CuesTest::cueBeat);
        document.saysToo("- `cue`: the id of the cue", "Returns the beat.");
        document.says("Throws `NoSuchElementException` if no pending cue has this id",
                () -> bounds.noPendingCue(SilentOpera::cueBeat));

        document.in("Promise 19");
        document.saysToo("Returns the kind of a pending cue.", "- `cue`: the id of the cue");
        document.says("Returns 'm' for a mouth, 'p' for a prop, 'h' for a hush.",
                CuesTest::cueKind);
        document.says("Throws `NoSuchElementException` if no pending cue has this id",
                () -> bounds.noPendingCue(SilentOpera::cueKind));

        document.in("Promise 20");
        document.says("Returns the size of a pending cue: its length for a mouth or a hush, and its"
                + " loudness for a prop.", CuesTest::cueSize);
        document.saysToo("- `cue`: the id of the cue", "Returns the size.");
        document.says("Throws `NoSuchElementException` if no pending cue has this id",
                () -> bounds.noPendingCue(SilentOpera::cueSize));

        document.in("Promise 21");
        document.says("Returns the performer of a pending cue.", CuesTest::cuePerformer);
        document.saysToo("- `cue`: the id of the cue", "Returns the performer.");
        document.says("Throws `NoSuchElementException` if no pending cue has this id",
                () -> bounds.noPendingCue(SilentOpera::cuePerformer));
        document.says("Throws `IllegalStateException` if the cue is a hush",
                CuesTest::performerOfHush);
    }

    private static void cueBeat() {
        SilentOpera opera = new SilentOpera();
        opera.cueHush(1, 1);
        opera.cueHush(199, 1);
        check.same("first beat", 1, opera.cueBeat(0));
        check.same("last beat", 199, opera.cueBeat(1));
        opera.moveCue(0, 2);
        opera.advance(1);
        check.same("moved", 2, opera.cueBeat(0));
    }

    private static SilentOpera oneOfEach() {
        SilentOpera opera = Stage.with(2);
        opera.cueMouth(1, 5, 7);
        opera.cueProp(0, 6, 8);
        opera.cueHush(7, 9);
        return opera;
    }

    private static void cueKind() {
        SilentOpera opera = oneOfEach();
        check.same("mouth", 'm', opera.cueKind(0));
        check.same("prop", 'p', opera.cueKind(1));
        check.same("hush", 'h', opera.cueKind(2));
    }

    private static void cueSize() {
        SilentOpera opera = oneOfEach();
        check.same("mouth", 7, opera.cueSize(0));
        check.same("prop", 8, opera.cueSize(1));
        check.same("hush", 9, opera.cueSize(2));
    }

    private static void cuePerformer() {
        SilentOpera opera = Stage.with(6);
        for (int performer = 0; performer < 6; performer++) {
            opera.cueMouth(5 - performer, 5, 7);
            opera.cueProp(performer, 5, 8);
            check.same("mouth", 5 - performer, opera.cuePerformer(2 * performer));
            check.same("prop", performer, opera.cuePerformer(2 * performer + 1));
        }
    }

    private static void performerOfHush() {
        check.same("a mouth", 1, oneOfEach().cuePerformer(0));
        check.same("a prop", 0, oneOfEach().cuePerformer(1));
        check.refuses("a hush", IllegalStateException.class, CuesTest::oneOfEach,
                opera -> opera.cuePerformer(2));
        check.refuses("a hush without performers", IllegalStateException.class,
                () -> Stage.then(new SilentOpera(), opera -> opera.cueHush(9, 1)),
                opera -> opera.cuePerformer(0));
        check.refuses("a hush that has happened", NO_ELEMENT,
                () -> Stage.pass(oneOfEach(), 7), opera -> opera.cuePerformer(2));
    }

    private interface Count {
        int of(SilentOpera opera);
    }

    private static void conflicts(Sentences document) {
        document.in("Promise 22");
        document.says("Returns the number of conflicts: pairs of pending mouth cues of the same"
                + " performer that have a beat in common.",
                () -> beatsInCommon(SilentOpera::conflictCount));
        document.says("Mouths that are open already do not count.",
                () -> openMouthsDoNotCount(SilentOpera::conflictCount));
        document.says("It is found by comparing all pairs.",
                () -> manyPairs(SilentOpera::conflictCount));
        document.saysToo("Returns the number of pairs.");

        document.in("Promise 23");
        document.says("Returns the same number as conflictCount(), found in one pass over the mouth"
                + " cues in cue order: for each cue the earlier ones of the same performer that are"
                + " still open are counted.", () -> {
                    beatsInCommon(SilentOpera::conflictCountByPass);
                    openMouthsDoNotCount(SilentOpera::conflictCountByPass);
                    manyPairs(SilentOpera::conflictCountByPass);
                });
        document.saysToo("Returns the number of pairs.");
    }

    private static SilentOpera mouthAt20For5() {
        return Stage.then(Stage.with(2), opera -> opera.cueMouth(0, 20, 5));
    }

    private static void beatsInCommon(Count count) {
        check.same("no cues", 0, count.of(new SilentOpera()));
        check.same("one mouth", 0, count.of(mouthAt20For5()));
        int[][] due = {{19, 1, 0}, {18, 2, 0}, {19, 2, 1}, {11, 9, 0}, {12, 9, 1}, {20, 1, 1},
            {20, 5, 1}, {18, 9, 1}, {21, 1, 1}, {24, 1, 1}, {24, 9, 1}, {25, 1, 0}, {25, 9, 0}};
        for (int[] row : due) {
            String what = "from " + row[0] + " for " + row[1];
            SilentOpera opera = mouthAt20For5();
            opera.cueMouth(0, row[0], row[1]);
            check.same(what, row[2], count.of(opera));
            SilentOpera apart = mouthAt20For5();
            apart.cueMouth(1, row[0], row[1]);
            apart.cueProp(0, row[0], row[1]);
            apart.cueHush(row[0], row[1]);
            check.same(what + ", no mouth of the same performer", 0, count.of(apart));
        }
    }

    private static void openMouthsDoNotCount(Count count) {
        SilentOpera opera = mouthAt20For5();
        opera.cueMouth(0, 24, 1);
        opera.advance(19);
        check.same("a beat before the first opens", 1, count.of(opera));
        opera.advance(1);
        check.same("when the first has opened", 0, count.of(opera));
        opera.cueMouth(0, 24, 1);
        check.same("two that are pending", 1, count.of(opera));
        opera.cancelCue(1);
        check.same("one is cancelled", 0, count.of(opera));
    }

    private static void manyPairs(Count count) {
        SilentOpera opera = Stage.with(2);
        for (int mouth = 0; mouth < 16; mouth++) {
            opera.cueMouth(0, 20 - mouth % 3, 3);
        }
        check.same("16 mouths, each with all others", 120, count.of(opera));
        opera.moveCue(3, 60);
        check.same("one is apart", 105, count.of(opera));
        SilentOpera chain = Stage.with(2);
        for (int mouth = 0; mouth < 16; mouth++) {
            chain.cueMouth(mouth % 2, 1 + 4 * (15 - mouth), 9);
        }
        check.same("each with the next one of the same performer", 14, count.of(chain));
    }
}
