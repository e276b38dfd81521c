/** Promises 9 to 23: cues, their order, their parts and their conflicts. */
public final class CuesTest {
    private static final Check check = new Check();

    public static void main(String[] args) {
        promise9CueMouth();
        promise10CueProp();
        promise11CueHush();
        sixteenCues();
        promise12CancelCue();
        promise13MoveCue();
        promise14CueCount();
        promise15CueAt();
        promises16And17FirstCueFrom();
        promises16And17LeaningTrees();
        promises18To21Parts();
        promises22And23Conflicts();
        check.end();
    }

    private static void promise9CueMouth() {
        SilentOpera opera = Stage.with(2);
        check.same("first id", 0, opera.cueMouth(0, 1, 1));
        check.same("last beat, longest", 1, opera.cueMouth(1, 199, 9));
        opera.advance(5);
        check.badArgument("current beat", opera, () -> opera.cueMouth(0, 5, 1));
        check.badArgument("past beat", opera, () -> opera.cueMouth(0, 4, 1));
        check.badArgument("beat 200", opera, () -> opera.cueMouth(0, 200, 1));
        check.badArgument("lowest beat", opera, () -> opera.cueMouth(0, Integer.MIN_VALUE, 1));
        check.badArgument("length 0", opera, () -> opera.cueMouth(0, 6, 0));
        check.badArgument("length 10", opera, () -> opera.cueMouth(0, 6, 10));
        check.noIndex("no performer", opera, () -> opera.cueMouth(2, 5, 0));
        check.noIndex("performer -1", opera, () -> opera.cueMouth(-1, 6, 1));
        check.same("next beat, next id", 2, opera.cueMouth(0, 6, 1));
        check.same("kind", 'm', opera.cueKind(2));
    }

    private static void promise10CueProp() {
        SilentOpera opera = Stage.with(2);
        check.same("first id", 0, opera.cueProp(0, 1, 1));
        check.same("last beat, loudest", 1, opera.cueProp(1, 199, 9));
        opera.advance(5);
        check.badArgument("current beat", opera, () -> opera.cueProp(0, 5, 1));
        check.badArgument("beat 200", opera, () -> opera.cueProp(0, 200, 1));
        check.badArgument("loudness 0", opera, () -> opera.cueProp(0, 6, 0));
        check.badArgument("loudness 10", opera, () -> opera.cueProp(0, 6, 10));
        check.noIndex("no performer", opera, () -> opera.cueProp(2, 5, 0));
        check.noIndex("performer -1", opera, () -> opera.cueProp(-1, 6, 1));
        check.same("next beat, next id", 2, opera.cueProp(0, 6, 1));
        check.same("kind", 'p', opera.cueKind(2));
    }

    private static void promise11CueHush() {
        SilentOpera opera = new SilentOpera();
        check.same("first id", 0, opera.cueHush(1, 1));
        check.same("last beat, longest", 1, opera.cueHush(199, 9));
        opera.advance(5);
        check.badArgument("current beat", opera, () -> opera.cueHush(5, 1));
        check.badArgument("beat 200", opera, () -> opera.cueHush(200, 1));
        check.badArgument("length 0", opera, () -> opera.cueHush(6, 0));
        check.badArgument("length 10", opera, () -> opera.cueHush(6, 10));
        check.same("next beat, next id", 2, opera.cueHush(6, 1));
        check.same("kind", 'h', opera.cueKind(2));
        for (int passes = 0; passes < 5; passes++) {
            opera.advance(40);
        }
        check.same("beyond the last cue beat", 205, opera.now());
        check.badArgument("no beat is left", opera, () -> opera.cueHush(206, 1));
    }

    private static void sixteenCues() {
        SilentOpera opera = Stage.with(1);
        for (int cue = 0; cue < 16; cue++) {
            check.same("cue", cue, opera.cueProp(0, 1 + cue % 3, 1));
        }
        check.badState("17th mouth", opera, () -> opera.cueMouth(0, 1, 1));
        check.badState("17th prop", opera, () -> opera.cueProp(0, 1, 1));
        check.badState("17th hush", opera, () -> opera.cueHush(1, 1));
        check.noIndex("17th mouth of nobody", opera, () -> opera.cueMouth(1, 1, 1));
        check.noIndex("17th prop of nobody", opera, () -> opera.cueProp(1, 1, 1));
        check.badArgument("17th mouth at 0", opera, () -> opera.cueMouth(0, 0, 1));
        check.badArgument("17th prop at 0", opera, () -> opera.cueProp(0, 0, 1));
        check.badArgument("17th hush at 0", opera, () -> opera.cueHush(0, 1));
        opera.cancelCue(7);
        check.same("ids go on", 16, opera.cueHush(9, 1));
        opera.advance(1);
        check.same("happened cues make room", 17, opera.cueHush(9, 1));
    }

    private static void promise12CancelCue() {
        SilentOpera opera = Stage.with(1);
        opera.cueProp(0, 5, 1);
        opera.cueHush(3, 1);
        opera.cueMouth(0, 4, 1);
        check.same("cancel", 2, opera.cancelCue(1));
        check.noElement("cancelled", opera, () -> opera.cancelCue(1));
        check.noElement("never added", opera, () -> opera.cancelCue(3));
        check.noElement("id -1", opera, () -> opera.cancelCue(-1));
        opera.advance(4);
        check.noElement("happened", opera, () -> opera.cancelCue(2));
        check.same("cancel the last", 0, opera.cancelCue(0));
        check.same("the id is not used again", 3, opera.cueHush(9, 1));
        check.same("cancelled cues do not happen", 1, opera.happenedCount());
        SilentOpera fresh = new SilentOpera();
        check.noElement("no cue at all", fresh, () -> fresh.cancelCue(0));
    }

    private static void promise13MoveCue() {
        SilentOpera opera = Stage.with(1);
        opera.cueProp(0, 5, 4);
        opera.cueProp(0, 7, 9);
        check.same("later", 5, opera.moveCue(0, 199));
        check.same("where it was", 199, opera.moveCue(0, 199));
        check.same("earlier", 199, opera.moveCue(0, 1));
        check.same("beat", 1, opera.cueBeat(0));
        check.same("size", 4, opera.cueSize(0));
        check.same("order", 0, opera.cueAt(0));
        opera.moveCue(1, 1);
        check.same("same beat, by id", 0, opera.cueAt(0));
        opera.moveCue(0, 7);
        opera.advance(2);
        check.noElement("happened", opera, () -> opera.moveCue(1, 0));
        check.noElement("id -1", opera, () -> opera.moveCue(-1, 5));
        check.badArgument("current beat", opera, () -> opera.moveCue(0, 2));
        check.badArgument("beat 200", opera, () -> opera.moveCue(0, 200));
        check.badArgument("beat -1", opera, () -> opera.moveCue(0, -1));
        check.same("next beat", 7, opera.moveCue(0, 3));
        check.same("ids go on", 2, opera.cueHush(3, 1));
    }

    private static void promise14CueCount() {
        SilentOpera opera = Stage.with(1);
        opera.cueProp(0, 5, 4);
        opera.cueHush(5, 4);
        opera.cueMouth(0, 6, 4);
        check.same("added", 3, opera.cueCount());
        opera.moveCue(0, 9);
        check.same("moved", 3, opera.cueCount());
        opera.cancelCue(0);
        check.same("cancelled", 2, opera.cueCount());
        opera.advance(5);
        check.same("happened", 1, opera.cueCount());
    }

    private static void promise15CueAt() {
        SilentOpera opera = Stage.with(1);
        int[] beats = {9, 3, 9, 1, 3, 12, 9};
        for (int beat : beats) {
            opera.cueProp(0, beat, 1);
        }
        int[] due = {3, 1, 4, 0, 2, 6, 5};
        for (int rank = 0; rank < due.length; rank++) {
            check.same("cueAt " + rank, due[rank], opera.cueAt(rank));
        }
        check.noElement("rank 7", opera, () -> opera.cueAt(7));
        check.noElement("rank 16", opera, () -> opera.cueAt(16));
        check.noElement("rank -1", opera, () -> opera.cueAt(-1));
        check.noElement("lowest rank", opera, () -> opera.cueAt(Integer.MIN_VALUE));
        opera.cancelCue(0);
        opera.moveCue(6, 9);
        check.same("after a cancelled one", 2, opera.cueAt(3));
    }

    private static void promises16And17FirstCueFrom() {
        SilentOpera opera = Stage.with(1);
        check.noElement("no cues", opera, () -> opera.firstCueFrom(0));
        check.noElement("no cues, by scan", opera, () -> opera.firstCueFromByScan(0));
        for (int beat : new int[] {20, 10, 30, 20, 10}) {
            opera.cueHush(beat, 1);
        }
        int[][] due = {{Integer.MIN_VALUE, 1}, {0, 1}, {10, 1}, {11, 0}, {20, 0}, {21, 2}, {30, 2}};
        for (int[] row : due) {
            check.same("first from " + row[0], row[1], opera.firstCueFrom(row[0]));
            check.same("by scan from " + row[0], row[1], opera.firstCueFromByScan(row[0]));
        }
        for (int beat : new int[] {31, 200, Integer.MAX_VALUE}) {
            check.noElement("first from " + beat, opera, () -> opera.firstCueFrom(beat));
            check.noElement("by scan from " + beat, opera, () -> opera.firstCueFromByScan(beat));
        }
        opera.moveCue(1, 40);
        check.same("after a move", 4, opera.firstCueFrom(5));
        check.same("after a move, by scan", 4, opera.firstCueFromByScan(5));
    }

    /** Trees that lean to one side, and trees that lose cues at their root and inside. */
    private static void promises16And17LeaningTrees() {
        SilentOpera rising = new SilentOpera();
        SilentOpera falling = new SilentOpera();
        for (int cue = 0; cue < 16; cue++) {
            rising.cueHush(cue + 1, 1);
            falling.cueHush(16 - cue, 1);
        }
        for (int beat = 1; beat <= 16; beat++) {
            check.same("rising, from " + beat, beat - 1, rising.firstCueFrom(beat));
            check.same("falling, from " + beat, 16 - beat, falling.firstCueFrom(beat));
        }
        SilentOpera mixed = new SilentOpera();
        for (int beat : new int[] {9, 20, 15, 30, 12, 17, 25}) {
            mixed.cueHush(beat, 1);
        }
        mixed.moveCue(0, 18);
        mixed.cancelCue(1);
        mixed.moveCue(2, 40);
        int[] due = {4, 5, 0, 6, 3, 2};
        int from = 0;
        for (int cue : due) {
            check.same("mixed, from " + from, cue, mixed.firstCueFrom(from));
            check.same("mixed, by scan from " + from, cue, mixed.firstCueFromByScan(from));
            from = mixed.cueBeat(cue) + 1;
        }
    }

    private static void promises18To21Parts() {
        SilentOpera opera = Stage.with(2);
        opera.cueMouth(1, 5, 7);
        opera.cueProp(0, 6, 8);
        opera.cueHush(7, 9);
        int[] beats = {5, 6, 7};
        char[] kinds = {'m', 'p', 'h'};
        int[] sizes = {7, 8, 9};
        for (int cue = 0; cue < 3; cue++) {
            check.same("beat of " + cue, beats[cue], opera.cueBeat(cue));
            check.same("kind of " + cue, kinds[cue], opera.cueKind(cue));
            check.same("size of " + cue, sizes[cue], opera.cueSize(cue));
        }
        check.same("performer of a mouth", 1, opera.cuePerformer(0));
        check.same("performer of a prop", 0, opera.cuePerformer(1));
        check.badState("performer of a hush", opera, () -> opera.cuePerformer(2));
        opera.advance(5);
        for (int cue : new int[] {0, 3, -1, Integer.MAX_VALUE, Integer.MIN_VALUE}) {
            check.noElement("beat of " + cue, opera, () -> opera.cueBeat(cue));
            check.noElement("kind of " + cue, opera, () -> opera.cueKind(cue));
            check.noElement("size of " + cue, opera, () -> opera.cueSize(cue));
            check.noElement("performer of " + cue, opera, () -> opera.cuePerformer(cue));
        }
    }

    private static void promises22And23Conflicts() {
        SilentOpera opera = Stage.with(2);
        conflicts("no cues", 0, opera);
        opera.cueMouth(0, 5, 3);
        opera.cueMouth(0, 8, 1);
        conflicts("next to each other", 0, opera);
        opera.cueMouth(0, 7, 2);
        conflicts("in common at both ends", 2, opera);
        opera.cueMouth(1, 5, 9);
        opera.cueProp(0, 6, 9);
        opera.cueHush(6, 9);
        conflicts("other performers, props and hushes", 2, opera);
        opera.cueMouth(0, 5, 1);
        conflicts("one in another", 3, opera);
        opera.moveCue(6, 7);
        conflicts("moved", 4, opera);
        opera.cueMouth(0, 1, 9);
        conflicts("one over all", 8, opera);
        opera.advance(1);
        conflicts("open mouths do not count", 4, opera);
        opera.cancelCue(2);
        conflicts("cancelled", 1, opera);
    }

    private static void conflicts(String what, int due, SilentOpera opera) {
        check.same(what, due, opera.conflictCount());
        check.same(what + ", by pass", due, opera.conflictCountByPass());
    }
}
