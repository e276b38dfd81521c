import java.io.IOException;
import java.util.NoSuchElementException;

/** Promises 1 to 8: a new object, performers, their fines, whispers and ranks. */
public final class PerformersTest {
    private static final Check check = new Check();
    private static final Bounds bounds = new Bounds(check);

    public static void main(String[] args) throws IOException {
        Sentences document = new Sentences(check);
        newObjectAndPerformers(document);
        finesAndMouths(document);
        whispersAndRanks(document);
        document.end();
    }

    private static void newObjectAndPerformers(Sentences document) {
        document.in("Promise 1");
        document.says("Creates a cue sheet without performers and cues at beat 0 of act 0.",
                PerformersTest::newObject);

        document.in("Promise 2");
        document.says("Adds a performer, who has no fines and whose mouth is closed.",
                PerformersTest::newPerformer);
        document.says("Returns the number of the performer.", PerformersTest::numberOfPerformer);
        document.says("Throws `IllegalStateException` if there are 6 performers",
                PerformersTest::sixPerformers);

        document.in("Promise 3");
        document.says("Returns the number of performers.", PerformersTest::performerCount);
    }

    private static void finesAndMouths(Sentences document) {
        document.in("Promise 4");
        document.says("Returns the fines that a performer owes.", PerformersTest::fines);
        document.saysToo("- `performer`: the performer", "Returns the fines in coins.");
        document.says("Throws `IndexOutOfBoundsException` if there is no such performer",
                () -> bounds.noSuchPerformer(SilentOpera::fines));

        document.in("Promise 5");
        document.saysToo("Lets a performer pay fines.", "- `performer`: the performer");
        document.says("- `coins`: the number of coins, 1 to 99", PerformersTest::coins);
        document.says("Returns the fines that the performer owes after the call.",
                PerformersTest::finesAfterPaying);
        document.says("Throws `IndexOutOfBoundsException` if there is no such performer",
                () -> bounds.noSuchPerformer((opera, performer) -> opera.payFine(performer, 9)));
        document.says("Throws `IllegalArgumentException` if the number of coins is not from 1 to 99",
                () -> bounds.notFrom("coins", 1, 99, () -> Stage.owing(144),
                        (opera, coins) -> opera.payFine(0, coins)));
        document.says("Throws `UnsupportedOperationException` if the number of coins is greater than"
                + " the fines", PerformersTest::moreCoinsThanFines);

        document.in("Promise 6");
        document.says("Returns whether the mouth of a performer is open at the current beat.",
                PerformersTest::isMouthing);
        document.saysToo("- `performer`: the performer", "Returns whether the mouth is open.");
        document.says("Throws `IndexOutOfBoundsException` if there is no such performer",
                () -> bounds.noSuchPerformer(SilentOpera::isMouthing));
    }

    private static void whispersAndRanks(Sentences document) {
        document.in("Promise 7");
        document.says("Lets a performer whisper at the current beat.",
                PerformersTest::whispersAreFined);
        document.saysToo("- `performer`: the performer");
        document.says("- `loudness`: the loudness, 1 to 3", PerformersTest::loudness);
        document.says("Returns the fine that is imposed: twice the loudness if the current beat is"
                + " hushed, and 0 otherwise.", PerformersTest::fineOfWhisper);
        document.says("Throws `IndexOutOfBoundsException` if there is no such performer",
                () -> bounds.noSuchPerformer((opera, performer) -> opera.whisper(performer, 1)));
        document.says("Throws `IllegalArgumentException` if the loudness is not from 1 to 3",
                () -> bounds.notFrom("loudness", 1, 3, () -> Stage.rich(1),
                        (opera, loudness) -> opera.whisper(0, loudness)));

        document.in("Promise 8");
        document.says("Returns the performer at a rank: the performer who owes more first; of"
                + " performers who owe the same the one with more pending cues first; then the one"
                + " with the lower number first.", PerformersTest::performerAtRank);
        document.says("- `rank`: the rank, from 0", PerformersTest::firstRank);
        document.saysToo("Returns the performer.");
        document.says("Throws `NoSuchElementException` if there is no such rank",
                PerformersTest::noSuchRank);
    }

    private static void newObject() {
        SilentOpera opera = new SilentOpera();
        check.same("performers", 0, opera.performerCount());
        check.same("cues", 0, opera.cueCount());
        check.same("beat", 0, opera.now());
        check.same("act", 0, opera.act());
        check.same("hushed at 0", false, opera.isHushed(0));
        check.same("noise at 1", 0, opera.noiseAt(1));
        check.same("conflicts", 0, opera.conflictCount() + opera.conflictCountByPass());
        check.same("happened", 0, opera.happenedCount());
        check.same("clashes", 0, opera.clashCount());
        check.same("imposed", 0, opera.imposedTotal());
        check.same("paid", 0, opera.paidTotal());
        check.same("line", "", Probe.line(opera));
        check.same("length of the text", 0, Aftermath.textLength(opera));
        SilentOpera other = Stage.rich(2);
        check.same("objects are apart, performers", 0, opera.performerCount());
        check.same("objects are apart, beat", 3, other.now());
    }

    private static void newPerformer() {
        for (int before : new int[] {0, 5}) {
            SilentOpera opera = Stage.rich(before);
            opera.addPerformer();
            check.same("performers", before + 1, opera.performerCount());
            check.same("fines", 0, opera.fines(before));
            check.same("mouth", false, opera.isMouthing(before));
        }
    }

    private static void numberOfPerformer() {
        SilentOpera opera = new SilentOpera();
        for (int number = 0; number < 6; number++) {
            check.same("addPerformer", number, opera.addPerformer());
        }
    }

    private static void sixPerformers() {
        check.same("a sixth one", 5, Stage.rich(5).addPerformer());
        check.refuses("a seventh one", IllegalStateException.class, () -> Stage.rich(6),
                SilentOpera::addPerformer);
        check.same("a sixth one is undone and added again", 5, Stage.then(Stage.with(6),
                SilentOpera::undo).addPerformer());
    }

    private static void performerCount() {
        SilentOpera opera = new SilentOpera();
        for (int count = 0; count <= 6; count++) {
            check.same("performerCount", count, opera.performerCount());
            Check.outcome(opera::addPerformer);
        }
        check.same("after a refused one", 6, opera.performerCount());
    }

    private static void fines() {
        SilentOpera opera = Stage.withFines(0, 1, 9);
        check.same("fines 0", 0, opera.fines(0));
        check.same("fines 1", 1, opera.fines(1));
        check.same("fines 2", 9, opera.fines(2));
        check.same("all that 16 props can bring", 144, Stage.owing(144).fines(0));
    }

    private static void coins() {
        bounds.takesJust("coins", 1, 99, () -> Stage.owing(144),
                (opera, coins) -> opera.payFine(0, coins));
    }

    private static void finesAfterPaying() {
        SilentOpera opera = Stage.withFines(9, 8);
        check.same("pay 1 of 9", 8, opera.payFine(0, 1));
        check.same("pay 7 of 8", 1, opera.payFine(0, 7));
        check.same("pay 1 of 1", 0, opera.payFine(0, 1));
        check.same("the others owe what they owed", 8, opera.fines(1));
        check.same("99 of 144", 45, Stage.owing(144).payFine(0, 99));
    }

    private static void moreCoinsThanFines() {
        Class<? extends RuntimeException> due = UnsupportedOperationException.class;
        check.refuses("1 of 0", due, () -> Stage.withFines(0, 9), opera -> opera.payFine(0, 1));
        check.same("9 of 9", 0, Stage.withFines(9, 0).payFine(0, 9));
        check.same("98 of 99", 1, Stage.owing(99).payFine(0, 98));
        check.same("99 of 99", 0, Stage.owing(99).payFine(0, 99));
        for (int coins : new int[] {10, 11, 99}) {
            check.refuses(coins + " of 9", due, () -> Stage.rich(2),
                    opera -> opera.payFine(0, coins));
        }
        check.refuses("99 of 98", due, () -> Stage.owing(98), opera -> opera.payFine(0, 99));
    }

    private static void isMouthing() {
        SilentOpera opera = Stage.with(2);
        opera.cueMouth(0, 2, 3);
        for (int beat = 0; beat <= 6; beat++) {
            boolean isOpen = beat >= 2 && beat <= 4;
            check.same("mouth at " + beat, isOpen, opera.isMouthing(0));
            check.same("other mouth at " + beat, false, opera.isMouthing(1));
            opera.advance(1);
        }
    }

    private static void whispersAreFined() {
        SilentOpera opera = Stage.with(2);
        opera.cueHush(1, 2);
        opera.whisper(0, 3);
        check.same("not hushed", 0, opera.fines(0));
        opera.advance(1);
        opera.whisper(0, 1);
        opera.whisper(0, 3);
        check.same("two whispers", 8, opera.fines(0));
        check.same("nobody else's whispers", 0, opera.fines(1));
        check.same("the beat stays", 1, opera.now());
    }

    private static void loudness() {
        bounds.takesJust("loudness", 1, 3, () -> Stage.rich(1),
                (opera, loudness) -> opera.whisper(0, loudness));
        bounds.takesJust("loudness in a new object", 1, 3, () -> Stage.with(1),
                (opera, loudness) -> opera.whisper(0, loudness));
    }

    private static void fineOfWhisper() {
        SilentOpera opera = Stage.with(1);
        opera.cueHush(2, 2);
        opera.advance(1);
        for (int loudness = 1; loudness <= 3; loudness++) {
            check.same("before the hush", 0, opera.whisper(0, loudness));
        }
        for (int beat = 2; beat <= 3; beat++) {
            opera.advance(1);
            for (int loudness = 1; loudness <= 3; loudness++) {
                check.same("hushed at " + beat, 2 * loudness, opera.whisper(0, loudness));
            }
        }
        opera.advance(1);
        check.same("after the hush", 0, opera.whisper(0, 3));
        opera.cueHush(5, 9);
        opera.advance(1);
        opera.turnAct();
        check.same("after the act", 0, opera.whisper(0, 3));
    }

    private static void performerAtRank() {
        SilentOpera opera = Stage.withFines(3, 5, 3, 3, 0, 4);
        ranks("by fines, then by number", opera, 1, 5, 0, 2, 3, 4);
        opera.cueProp(2, 20, 1);
        opera.cueMouth(3, 20, 1);
        opera.cueMouth(4, 20, 1);
        opera.cueMouth(4, 21, 1);
        ranks("by pending cues", opera, 1, 5, 2, 3, 0, 4);
        opera.cueHush(30, 1);
        ranks("a hush is nobody's cue", opera, 1, 5, 2, 3, 0, 4);
        int prop = opera.cueProp(3, 21, 1);
        ranks("one cue more", opera, 1, 5, 3, 2, 0, 4);
        opera.cancelCue(prop);
        ranks("one cue less", opera, 1, 5, 2, 3, 0, 4);
        opera.payFine(1, 1);
        ranks("the same fines", opera, 1, 5, 2, 3, 0, 4);
        opera.payFine(1, 1);
        ranks("one coin less", opera, 5, 2, 3, 0, 1, 4);
        opera.advance(20);
        ranks("happened cues do not count", opera, 5, 0, 1, 2, 3, 4);
    }

    private static void ranks(String what, SilentOpera opera, int... due) {
        for (int rank = 0; rank < due.length; rank++) {
            check.same(what + ", rank " + rank, due[rank], opera.performerAtRank(rank));
        }
    }

    private static void firstRank() {
        check.same("rank 0", 1, Stage.withFines(1, 2).performerAtRank(0));
        check.same("rank 1", 0, Stage.withFines(1, 2).performerAtRank(1));
        check.same("rank 0 of one", 0, Stage.with(1).performerAtRank(0));
        check.refuses("rank -1", NoSuchElementException.class, () -> Stage.rich(1),
                opera -> opera.performerAtRank(-1));
    }

    private static void noSuchRank() {
        for (int performers : new int[] {0, 1, 6}) {
            bounds.indexBelow("rank", NoSuchElementException.class, performers,
                    () -> Stage.rich(performers), SilentOpera::performerAtRank);
        }
    }
}
