/** Promises 1 to 8: a new object, performers, their fines, whispers and ranks. */
public final class PerformersTest {
    private static final Check check = new Check();

    public static void main(String[] args) {
        promise1NewObject();
        promise2AddPerformer();
        promise3PerformerCount();
        promise4Fines();
        promise5PayFine();
        promise5ListedFirst();
        promise6IsMouthing();
        promise7Whisper();
        promise8PerformerAtRank();
        check.end();
    }

    private static void promise1NewObject() {
        SilentOpera opera = new SilentOpera();
        check.same("performers", 0, opera.performerCount());
        check.same("cues", 0, opera.cueCount());
        check.same("beat", 0, opera.now());
        check.same("act", 0, opera.act());
        check.same("hushed at 0", false, opera.isHushed(0));
        check.same("limit", 6, opera.setLimit(6));
        check.same("first cue", 0, opera.cueHush(1, 1));
        check.badState("restore without snapshot", opera, opera::restore);
        SilentOpera other = new SilentOpera();
        check.same("objects are apart", 0, other.cueCount());
    }

    private static void promise2AddPerformer() {
        SilentOpera opera = new SilentOpera();
        for (int number = 0; number < 6; number++) {
            check.same("addPerformer", number, opera.addPerformer());
            check.same("new fines", 0, opera.fines(number));
            check.same("new mouth", false, opera.isMouthing(number));
        }
        check.badState("a seventh performer", opera, opera::addPerformer);
    }

    private static void promise3PerformerCount() {
        SilentOpera opera = new SilentOpera();
        for (int count = 1; count <= 6; count++) {
            opera.addPerformer();
            check.same("performerCount", count, opera.performerCount());
        }
    }

    private static void promise4Fines() {
        SilentOpera opera = Stage.withFines(0, 7, 9);
        check.same("fines 0", 0, opera.fines(0));
        check.same("fines 1", 7, opera.fines(1));
        check.same("fines 2", 9, opera.fines(2));
        for (int performer : new int[] {-1, 3, 6, Integer.MIN_VALUE, Integer.MAX_VALUE}) {
            check.noIndex("fines " + performer, opera, () -> opera.fines(performer));
        }
    }

    private static void promise5PayFine() {
        SilentOpera opera = Stage.withFines(9, 8);
        check.same("pay 1", 8, opera.payFine(0, 1));
        check.same("pay all", 0, opera.payFine(1, 8));
        check.same("owes after", 8, opera.fines(0));
        check.same("paid", 9, opera.paidTotal());
        check.same("imposed stays", 17, opera.imposedTotal());
        check.refuses("too much", UnsupportedOperationException.class, opera,
                () -> opera.payFine(0, 9));
        check.refuses("99 coins", UnsupportedOperationException.class, opera,
                () -> opera.payFine(0, 99));
        check.badArgument("100 coins", opera, () -> opera.payFine(0, 100));
        check.badArgument("no coins", opera, () -> opera.payFine(0, 0));
        check.badArgument("less coins", opera, () -> opera.payFine(0, -1));
        check.noIndex("no performer", opera, () -> opera.payFine(2, 1));
        check.noIndex("performer -1", opera, () -> opera.payFine(-1, 1));
    }

    private static void promise5ListedFirst() {
        SilentOpera opera = Stage.withFines(5);
        check.noIndex("performer before coins", opera, () -> opera.payFine(1, 0));
        check.badArgument("coins before fines", opera,
                () -> opera.payFine(0, Integer.MAX_VALUE));
        SilentOpera rich = new SilentOpera();
        rich.addPerformer();
        rich.setLimit(0);
        for (int cue = 0; cue < 12; cue++) {
            rich.cueProp(0, 1, 9);
        }
        rich.advance(1);
        check.badArgument("100 of 108", rich, () -> rich.payFine(0, 100));
        check.same("99 of 108", 9, rich.payFine(0, 99));
    }

    private static void promise6IsMouthing() {
        SilentOpera opera = Stage.with(2);
        opera.cueMouth(0, 2, 3);
        opera.advance(1);
        check.same("before", false, opera.isMouthing(0));
        for (int beat = 2; beat <= 5; beat++) {
            opera.advance(1);
            check.same("mouth at " + beat, beat <= 4, opera.isMouthing(0));
            check.same("other mouth at " + beat, false, opera.isMouthing(1));
        }
        check.noIndex("no performer", opera, () -> opera.isMouthing(2));
        check.noIndex("performer -1", opera, () -> opera.isMouthing(-1));
    }

    private static void promise7Whisper() {
        SilentOpera opera = Stage.with(2);
        opera.cueHush(2, 2);
        check.same("not hushed", 0, opera.whisper(0, 3));
        opera.advance(1);
        check.same("hush to come", 0, opera.whisper(0, 1));
        opera.advance(1);
        check.same("hushed by 1", 2, opera.whisper(0, 1));
        check.same("hushed by 3", 6, opera.whisper(1, 3));
        opera.advance(1);
        check.same("last hushed beat", 4, opera.whisper(1, 2));
        check.same("fines 0", 2, opera.fines(0));
        check.same("fines 1", 10, opera.fines(1));
        check.same("imposed", 12, opera.imposedTotal());
        check.badArgument("loudness 0", opera, () -> opera.whisper(0, 0));
        check.badArgument("loudness 4", opera, () -> opera.whisper(0, 4));
        check.noIndex("no performer", opera, () -> opera.whisper(2, 0));
        check.noIndex("performer -1", opera, () -> opera.whisper(-1, 1));
        opera.advance(1);
        check.same("the hush is over", 0, opera.whisper(0, 3));
    }

    private static void promise8PerformerAtRank() {
        SilentOpera opera = Stage.withFines(3, 5, 3, 3, 0);
        opera.cueProp(2, 20, 1);
        opera.cueMouth(3, 20, 1);
        opera.cueMouth(4, 20, 1);
        opera.cueMouth(4, 21, 1);
        int[] due = {1, 2, 3, 0, 4};
        for (int rank = 0; rank < due.length; rank++) {
            check.same("rank " + rank, due[rank], opera.performerAtRank(rank));
        }
        opera.cueHush(20, 1);
        check.same("a hush is nobody's cue", 3, opera.performerAtRank(2));
        opera.cueProp(3, 30, 1);
        check.same("more cues first", 3, opera.performerAtRank(1));
        check.noElement("rank -1", opera, () -> opera.performerAtRank(-1));
        check.noElement("rank 5", opera, () -> opera.performerAtRank(5));
        SilentOpera empty = new SilentOpera();
        check.noElement("nobody", empty, () -> empty.performerAtRank(0));
    }
}
