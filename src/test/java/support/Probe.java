/**
 * Writes down what the queries of an object answer. It takes some 250 calls, so that an object is
 * good for one probe and what comes before it.
 */
final class Probe {
    private static final int LONGEST_HUSH = 9;
    private static final int LONGEST_LINE = 20;

    private final SilentOpera opera;
    private final StringBuilder text = new StringBuilder();

    private Probe(SilentOpera opera) {
        this.opera = opera;
    }

    static String of(SilentOpera opera) {
        Probe probe = new Probe(opera);
        probe.performers();
        probe.cues();
        probe.beats();
        probe.totals();
        probe.note("line", line(opera));
        return probe.text.toString();
    }

    private void note(String name, Object answer) {
        text.append(name).append('=').append(answer).append('\n');
    }

    private void performers() {
        int count = opera.performerCount();
        note("performers", count);
        for (int performer = 0; performer < count; performer++) {
            note("fines " + performer, opera.fines(performer));
            note("mouthing " + performer, opera.isMouthing(performer));
            note("rank " + performer, opera.performerAtRank(performer));
            note("foreseen " + performer, opera.finesAfter(performer, 40));
            note("by cues " + performer, opera.finesAfterByCues(performer, 40));
        }
    }

    private void cues() {
        int count = opera.cueCount();
        note("cues", count);
        for (int rank = 0; rank < count; rank++) {
            int cue = opera.cueAt(rank);
            int beat = opera.cueBeat(cue);
            note("cue " + rank, cue);
            note("beat", beat);
            note("kind", opera.cueKind(cue));
            note("size", opera.cueSize(cue));
            note("performer", Check.outcome(() -> opera.cuePerformer(cue)));
            note("noise", opera.noiseAt(beat));
            note("hushed", opera.isHushed(beat));
            note("next", Check.outcome(() -> opera.firstCueFrom(beat + 1)));
            note("next by scan", Check.outcome(() -> opera.firstCueFromByScan(beat + 1)));
        }
        note("conflicts", opera.conflictCount());
        note("conflicts by pass", opera.conflictCountByPass());
        note("loudest", Check.outcome(opera::loudestBeat));
    }

    private void beats() {
        int now = opera.now();
        note("now", now);
        note("act", opera.act());
        for (int beat = now - 1; beat <= now + LONGEST_HUSH; beat++) {
            note("hushed " + beat, opera.isHushed(beat));
        }
    }

    private void totals() {
        note("happened", opera.happenedCount());
        note("clashes", opera.clashCount());
        note("imposed", opera.imposedTotal());
        note("paid", opera.paidTotal());
        note("mean", Check.outcome(opera::meanFines));
        note("share", Check.outcome(opera::hushedShare));
        note("consistent", opera.isConsistent());
    }

    /** The signs of the line up to the first index that there is not. */
    static String line(SilentOpera opera) {
        StringBuilder line = new StringBuilder();
        for (int index = 0; index < LONGEST_LINE; index++) {
            int at = index;
            Object sign = Check.outcome(() -> opera.lineAt(at));
            if (!(sign instanceof Character)) {
                break;
            }
            line.append(sign);
        }
        return line.toString();
    }
}
