/** Makes objects that tests begin with, and takes them further. */
final class Stage {
    private Stage() {
    }

    static SilentOpera with(int performers) {
        SilentOpera opera = new SilentOpera();
        for (int performer = 0; performer < performers; performer++) {
            opera.addPerformer();
        }
        return opera;
    }

    /** At beat 1, each performer owes the given fines, at most 9, and the limit is 6. */
    static SilentOpera withFines(int... fines) {
        SilentOpera opera = with(fines.length);
        opera.setLimit(0);
        for (int performer = 0; performer < fines.length; performer++) {
            if (fines[performer] > 0) {
                opera.cueProp(performer, 1, fines[performer]);
            }
        }
        opera.advance(1);
        opera.setLimit(6);
        return opera;
    }

    /** One performer, who owes a number of coins, at most 144, at beat 1 and limit 6. */
    static SilentOpera owing(int coins) {
        SilentOpera opera = with(1);
        opera.setLimit(0);
        for (int left = coins; left > 0; left -= 9) {
            opera.cueProp(0, 1, Math.min(left, 9));
        }
        opera.advance(1);
        opera.setLimit(6);
        return opera;
    }

    /** One performer, at a beat, with a prop that is pending if there is a later beat for it. */
    static SilentOpera at(int beat) {
        SilentOpera opera = with(1);
        if (beat < 199) {
            opera.cueProp(0, 199, 1);
        }
        return pass(opera, beat);
    }

    /** One performer, and props at beat 2 and at every second beat from there on. */
    static SilentOpera withProps(int props) {
        SilentOpera opera = with(1);
        for (int prop = 1; prop <= props; prop++) {
            opera.cueProp(0, 2 * prop, 1);
        }
        return opera;
    }

    /**
     * Beat 3 of act 1, with something of all that a call could spoil: each performer owes 9 coins,
     * a hush has begun, and there are cues, an open mouth, a snapshot, more than 8 changes, a line,
     * an error position, a failure and a command text.
     */
    static SilentOpera rich(int performers) {
        SilentOpera opera = with(performers);
        opera.setLimit(0);
        for (int performer = 0; performer < performers; performer++) {
            opera.cueProp(performer, 1, 9);
        }
        opera.advance(1);
        opera.turnAct();
        opera.cueHush(2, 9);
        if (performers > 0) {
            opera.cueMouth(0, 3, 9);
            opera.cueMouth(0, 22, 3);
            opera.cueMouth(0, 23, 3);
            opera.cueProp(0, 21, 4);
        }
        opera.save();
        opera.advance(2);
        opera.setLimit(5);
        opera.cueHush(20, 3);
        opera.moveCue(opera.cueAt(0), 19);
        return typed(opera, performers);
    }

    private static SilentOpera typed(SilentOpera opera, int performers) {
        run(opera, "act;x");
        run(opera, "act;cancel 999");
        opera.describeCue(opera.cueAt(0));
        return type(opera, "act;limit 9");
    }

    static SilentOpera pass(SilentOpera opera, int beats) {
        for (int left = beats; left > 0; left -= 40) {
            opera.advance(Math.min(left, 40));
        }
        return opera;
    }

    static SilentOpera then(SilentOpera opera, Check.Act... acts) {
        for (Check.Act act : acts) {
            act.on(opera);
        }
        return opera;
    }

    static SilentOpera type(SilentOpera opera, String text) {
        for (int index = 0; index < text.length(); index++) {
            opera.append(text.charAt(index));
        }
        return opera;
    }

    /** Carries out a text, or lets it be refused. */
    static SilentOpera run(SilentOpera opera, String text) {
        Check.outcome(type(opera, text)::run);
        return opera;
    }
}
