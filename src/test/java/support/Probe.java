/** Writes down all that the queries of an object answer, to see whether a call changed anything. */
final class Probe {
    private static final int LAST_BEAT = 215;

    private final SilentOpera opera;
    private final StringBuilder text = new StringBuilder();

    private Probe(SilentOpera opera) {
        this.opera = opera;
    }

    static String of(SilentOpera opera) {
        Probe probe = new Probe(opera);
        probe.performers();
        probe.cues();
        probe.beats();
        probe.totals();
        return probe.text.toString();
    }

    private void note(String name, Object answer) {
        text.append(name).append('=').append(answer).append('\n');
    }

    private void performers() {
        int count = opera.performerCount();
        note("performers", count);
        for (int performer = 0; performer < count; performer++) {
            int number = performer;
            note("fines " + performer, opera.fines(performer));
            note("mouthing " + performer, opera.isMouthing(performer));
            note("rank " + performer, opera.performerAtRank(performer));
            note("foreseen " + performer, Check.outcome(() -> opera.finesAfter(number, 40)));
            note("by cues " + performer, Check.outcome(() -> opera.finesAfterByCues(number, 40)));
        }
    }

    private void cues() {
        note("cues", opera.cueCount());
        for (int rank = 0; rank < opera.cueCount(); rank++) {
            int cue = opera.cueAt(rank);
            note("cue " + rank, cue);
            note("beat", opera.cueBeat(cue));
            note("kind", opera.cueKind(cue));
            note("size", opera.cueSize(cue));
            note("performer", Check.outcome(() -> opera.cuePerformer(cue)));
        }
        note("conflicts", opera.conflictCount());
        note("conflicts by pass", opera.conflictCountByPass());
        note("loudest", Check.outcome(opera::loudestBeat));
    }

    private void beats() {
        for (int beat = -1; beat <= LAST_BEAT; beat++) {
            int at = beat;
            if (opera.noiseAt(beat) != 0) {
                note("noise " + beat, opera.noiseAt(beat));
            }
            if (opera.isHushed(beat)) {
                note("hushed", beat);
            }
            note("first", Check.outcome(() -> opera.firstCueFrom(at)));
            note("first by scan", Check.outcome(() -> opera.firstCueFromByScan(at)));
        }
    }

    private void totals() {
        note("now", opera.now());
        note("act", opera.act());
        note("happened", opera.happenedCount());
        note("clashes", opera.clashCount());
        note("imposed", opera.imposedTotal());
        note("paid", opera.paidTotal());
        note("mean", Check.outcome(opera::meanFines));
        note("share", Check.outcome(opera::hushedShare));
        note("consistent", opera.isConsistent());
        StringBuilder line = new StringBuilder();
        for (int index = 0; index < 40; index++) {
            int at = index;
            Object sign = Check.outcome(() -> opera.lineAt(at));
            line.append(sign instanceof Character ? sign : "");
        }
        note("line", line);
    }
}
