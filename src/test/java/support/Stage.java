/** Makes objects that tests begin with. */
final class Stage {
    private Stage() {
    }

    static SilentOpera with(int performers) {
        SilentOpera opera = new SilentOpera();
        for (int performer = 0; performer < performers; performer++) {
            opera.addPerformer();
        }
        return opera;
    }

    /** At beat 1, each performer owes the given fines, at most 9, and the limit is 6. */
    static SilentOpera withFines(int... fines) {
        SilentOpera opera = with(fines.length);
        opera.setLimit(0);
        for (int performer = 0; performer < fines.length; performer++) {
            if (fines[performer] > 0) {
                opera.cueProp(performer, 1, fines[performer]);
            }
        }
        opera.advance(1);
        opera.setLimit(6);
        return opera;
    }

    static SilentOpera type(SilentOpera opera, String text) {
        for (int index = 0; index < text.length(); index++) {
            opera.append(text.charAt(index));
        }
        return opera;
    }

    static String line(SilentOpera opera, int length) {
        StringBuilder line = new StringBuilder();
        for (int index = 0; index < length; index++) {
            line.append(opera.lineAt(index));
        }
        return line.toString();
    }
}
