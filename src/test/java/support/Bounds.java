import java.util.NoSuchElementException;

/** Bounds that several sentences have in common, each tried at both sides. */
final class Bounds {
    /** A call with the number that is to be tried, all else being allowed. */
    interface NumberCall {
        Object on(SilentOpera opera, int number);
    }

    private final Check check;

    Bounds(Check check) {
        this.check = check;
    }

    void takes(String what, Check.Setting setting, NumberCall call, int number) {
        Object outcome = Check.outcome(() -> call.on(setting.make(), number));
        check.isTrue(what + " " + number + " is taken, answer " + outcome,
                !(outcome instanceof String));
    }

    void refuses(String what, Class<? extends RuntimeException> due, Check.Setting setting,
            NumberCall call, int... numbers) {
        for (int number : numbers) {
            check.refuses(what + " " + number, due, setting, opera -> call.on(opera, number));
        }
    }

    /** All numbers from the lowest to the highest one are taken, and those next to them are not. */
    void takesJust(String what, int lowest, int highest, Check.Setting setting, NumberCall call) {
        for (int number = lowest; number <= highest; number++) {
            takes(what, setting, call, number);
        }
        for (int number : new int[] {lowest - 1, highest + 1}) {
            Object outcome = Check.outcome(() -> call.on(setting.make(), number));
            check.isTrue(what + " " + number + " is not taken", outcome instanceof String);
        }
    }

    void notFrom(String what, int lowest, int highest, Check.Setting setting, NumberCall call) {
        takes(what, setting, call, lowest);
        takes(what, setting, call, highest);
        refuses(what, IllegalArgumentException.class, setting, call, -1, lowest - 1, highest + 1,
                Integer.MIN_VALUE, Integer.MAX_VALUE);
    }

    /** Index from 0 to a number that is too great, or none if this is 0. */
    void indexBelow(String what, Class<? extends RuntimeException> due, int count,
            Check.Setting setting, NumberCall call) {
        for (int index = 0; index < count; index++) {
            takes(what + " of " + count, setting, call, index);
        }
        refuses(what + " of " + count, due, setting, call, -1, count, count + 1,
                Integer.MIN_VALUE, Integer.MAX_VALUE);
    }

    /** With no, one and all six performers, each of whom owes 9 coins. */
    void noSuchPerformer(NumberCall call) {
        for (int performers : new int[] {0, 1, 6}) {
            indexBelow("performer", IndexOutOfBoundsException.class, performers,
                    () -> Stage.rich(performers), call);
        }
    }

    /** Cue 0 is pending, 1 is cancelled, 2 has happened, 3 is moved, and 4 is undone. */
    private static SilentOpera withLostCues() {
        SilentOpera opera = Stage.with(1);
        opera.cueProp(0, 9, 1);
        opera.cueProp(0, 9, 1);
        opera.cueProp(0, 2, 1);
        opera.cueProp(0, 3, 1);
        opera.cancelCue(1);
        opera.advance(2);
        opera.moveCue(3, 199);
        opera.cueProp(0, 9, 1);
        opera.undo();
        return opera;
    }

    void noPendingCue(NumberCall call) {
        Class<? extends RuntimeException> due = NoSuchElementException.class;
        refuses("without cues, cue", due, SilentOpera::new, call, -1, 0, 1, Integer.MAX_VALUE);
        Check.Setting setting = Bounds::withLostCues;
        takes("pending cue", setting, call, 0);
        refuses("cancelled cue", due, setting, call, 1);
        refuses("happened cue", due, setting, call, 2);
        takes("moved cue", setting, call, 3);
        refuses("undone cue", due, setting, call, 4);
        refuses("cue", due, setting, call, -1, 5, Integer.MIN_VALUE, Integer.MAX_VALUE);
    }

    void sixteenPending(Check.Act add) {
        check.same("a 16th cue", 15, Check.outcome(() -> add.on(Stage.withProps(15))));
        check.refuses("a 17th cue", IllegalStateException.class, () -> Stage.withProps(16), add);
        check.same("a 16th cue after one is cancelled", 16, Check.outcome(() -> add.on(
                Stage.then(Stage.withProps(16), opera -> opera.cancelCue(7)))));
        check.refuses("a 17th cue before one happens", IllegalStateException.class,
                () -> Stage.pass(Stage.withProps(16), 1), add);
        check.same("a 16th cue after one has happened", 16, Check.outcome(() -> add.on(
                Stage.pass(Stage.withProps(16), 2))));
    }

    /** For a beat, beats at both sides of the current one and of the last one for a cue. */
    void beatNotAllowed(NumberCall call) {
        Class<? extends RuntimeException> due = IllegalArgumentException.class;
        for (int now : new int[] {0, 1, 50, 197, 198}) {
            Check.Setting setting = () -> Stage.at(now);
            String what = "at beat " + now + ", beat";
            refuses(what, due, setting, call, now - 1, now, 200, 201);
            takes(what, setting, call, now + 1);
            takes(what, setting, call, 199);
        }
        refuses("beat", due, () -> Stage.at(50), call, -1, 0, Integer.MIN_VALUE, Integer.MAX_VALUE);
    }

    /** Cues can be added no more when the beat is the last one for a cue, or a later one. */
    void noBeatIsLeft(NumberCall call) {
        for (int now : new int[] {199, 200, 239}) {
            refuses("at beat " + now + ", beat", IllegalArgumentException.class,
                    () -> Stage.at(now), call, 0, 198, 199, 200, now + 1);
        }
    }
}
