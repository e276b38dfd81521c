/** Promises 38 to 42: the command text, its form, and commands that fail. */
public final class CommandsTest {
    private static final Check check = new Check();

    public static void main(String[] args) {
        promise38Append();
        promise39TextIsEmptyAfterwards();
        promise39EachCommand();
        promise39Numbers();
        promise39AllOrNone();
        promise39LongestText();
        promise40ErrorPositions();
        promise40KeptPosition();
        promises41And42EachFailure();
        promises41And42KeptFailure();
        check.end();
    }

    private static void promise38Append() {
        SilentOpera opera = new SilentOpera();
        check.badArgument("code 31", opera, () -> opera.append((char) 31));
        check.badArgument("code 127", opera, () -> opera.append((char) 127));
        check.badArgument("code 0", opera, () -> opera.append((char) 0));
        check.badArgument("code 65535", opera, () -> opera.append((char) 65535));
        check.same("code 32", 1, opera.append(' '));
        check.same("code 126", 2, opera.append('~'));
        for (int length = 3; length <= 60; length++) {
            check.same("append", length, opera.append('x'));
        }
        check.badState("a 61st character", opera, () -> opera.append('x'));
        check.badArgument("a wrong 61st character", opera, () -> opera.append((char) 31));
        check.badState("appending is no change", opera, opera::undo);
        Check.outcome(opera::run);
        check.same("empty after run", 1, opera.append('x'));
    }

    private static void promise39TextIsEmptyAfterwards() {
        SilentOpera opera = new SilentOpera();
        run(opera, "act", 1);
        check.same("after a good run", 1, opera.append('a'));
        Stage.type(opera, "x");
        check.badArgument("an error", opera, opera::run);
        check.same("after an error", 1, opera.append('p'));
        Stage.type(opera, "ay 0 1");
        check.badState("a failure", opera, opera::run);
        check.same("after a failure", 1, opera.append('a'));
        run(opera, "ct", 1);
    }

    private static void promise39EachCommand() {
        SilentOpera opera = new SilentOpera();
        run(opera, "performer", 1);
        check.same("performer", 1, opera.performerCount());
        run(opera, "mouth 0 4 2", 1);
        check.same("mouth", "m0@4=2", parts(opera, 0));
        run(opera, "prop 0 5 9", 1);
        check.same("prop", "p0@5=9", parts(opera, 1));
        run(opera, "hush 5 3", 1);
        check.same("hush", "h@5=3", parts(opera, 2));
        run(opera, "move 0 12", 1);
        check.same("move", "m0@12=2", parts(opera, 0));
        run(opera, "cancel 0", 1);
        check.same("cancel", 2, opera.cueCount());
        run(opera, "advance 5", 1);
        check.same("advance", 5, opera.now());
        run(opera, "pay 0 4", 1);
        check.same("pay", 5, opera.fines(0));
        run(opera, "whisper 02", 1);
        check.same("whisper", 9, opera.fines(0));
        run(opera, "limit 29", 1);
        check.same("limit", 29, opera.setLimit(29));
        run(opera, "act", 1);
        check.same("act", 1, opera.act());
    }

    private static void run(SilentOpera opera, String text, int commands) {
        check.same("run '" + text + "'", commands, Check.outcome(Stage.type(opera, text)::run));
    }

    private static String parts(SilentOpera opera, int cue) {
        char kind = opera.cueKind(cue);
        return kind + (kind == 'h' ? "" : "" + opera.cuePerformer(cue)) + "@" + opera.cueBeat(cue)
                + "=" + opera.cueSize(cue);
    }

    private static void promise39Numbers() {
        SilentOpera opera = Stage.with(6);
        run(opera, "hush 007 9;hush 1 1;hush 12 2;hush 199 3", 4);
        check.same("three digits", 7, opera.cueBeat(0));
        check.same("one digit", 1, opera.cueBeat(1));
        check.same("two digits", 12, opera.cueBeat(2));
        check.same("199", 199, opera.cueBeat(3));
        run(opera, "mouth 5 020 8;prop 4 30 7;move 004 021;advance 001;act", 5);
        check.same("mouth", "m5@21=8", parts(opera, 4));
        check.same("prop", "p4@30=7", parts(opera, 5));
        check.same("one beat", 1, opera.now());
    }

    private static void promise39AllOrNone() {
        SilentOpera opera = Stage.with(1);
        opera.cueHush(3, 1);
        Stage.type(opera, "performer;hush 2 9;cancel 0;advance 3;limit 4;act;pay 0 1");
        check.badState("the last command fails", opera, opera::run);
        check.same("undo is as before", 1, opera.undo());
        check.same("ids are as before", 0, opera.cueHush(3, 1));
        run(opera, "performer;hush 2 9;advance 3;limit 4;act", 5);
        check.same("now", 3, opera.now());
        check.same("one change", 2, opera.undo());
        check.same("now", 0, opera.now());
        check.same("performers", 1, opera.performerCount());
        check.same("limit", 6, opera.setLimit(6));
        check.same("the text is not undone", 1, opera.append('x'));
    }

    private static void promise39LongestText() {
        SilentOpera opera = new SilentOpera();
        run(opera, "performer;performer;performer;performer;performer;performer", 6);
        SilentOpera mute = Stage.with(1);
        run(mute, "limit 0;limit 1;limit 2;limit 3;limit 4;limit 5;limit 6;act", 8);
        run(mute, "act;act;advance 40;limit 19;whisper 01;whisper 02;whisper 03", 7);
        check.same("limit", 19, mute.setLimit(1));
        error(mute, "act;act;act;act;act;act;act;act;act;act;act;act;act;act;act;", 60);
        Stage.type(mute, "act;act;act;act;act;act;act;act;act;act;act;act;act;act;act");
        check.badState("fifteen commands", mute, mute::run);
        check.same("first of fifteen", 0, mute.failedCommand());
    }

    private static void error(SilentOpera opera, String text, int position) {
        Stage.type(opera, text);
        check.badArgument("run '" + text + "'", opera, opera::run);
        check.same("error position of '" + text + "'", position, opera.errorPosition());
    }

    private static void promise40ErrorPositions() {
        SilentOpera opera = new SilentOpera();
        check.noElement("no error position", opera, opera::errorPosition);
        String[] commands = {"performer", "pay 0 123", "whisper 01", "mouth 0 123 1", "prop 0 123 1",
            "hush 123 1", "cancel 123", "move 123 123", "limit 123", "advance 123", "act"};
        for (String command : commands) {
            everyPrefix(opera, command);
            error(opera, command + " ", command.length());
            error(opera, command + "1", command.length());
            error(opera, command + ";", command.length() + 1);
            error(opera, command + ";;", command.length() + 1);
            error(opera, "act;" + command + "x", command.length() + 4);
        }
        error(opera, "", 0);
        error(opera, " act", 0);
        error(opera, "act; act", 4);
        error(opera, "Act", 0);
        error(opera, "pat", 2);
        error(opera, "pray", 2);
        error(opera, "pea", 2);
        error(opera, "mode", 2);
        error(opera, "adt", 2);
        error(opera, "pay #", 4);
        error(opera, "pay 0 *", 6);
        error(opera, "pay 00 1", 5);
        error(opera, "pay 0  1", 6);
        error(opera, "pay 0 -1", 6);
        error(opera, "whisper 0 1", 9);
        error(opera, "mouth 0 1;act", 9);
        error(opera, "mouth 0 1 12", 11);
        error(opera, "move 1234 1", 8);
        error(opera, "hush 1 :", 7);
        error(opera, "hush 1 /", 7);
    }

    /** A text that a character is missing from has its length as error position. */
    private static void everyPrefix(SilentOpera opera, String command) {
        for (int length = 0; length < command.length(); length++) {
            String prefix = command.substring(0, length);
            boolean isNumberBegun = length > 0 && command.endsWith("123")
                    && command.substring(length).matches("\\d+") && prefix.matches(".*\\d");
            if (!isNumberBegun) {
                error(opera, prefix, length);
                error(opera, prefix + "?", length);
            }
        }
    }

    private static void promise40KeptPosition() {
        SilentOpera opera = new SilentOpera();
        Stage.type(opera, "act;x");
        Check.outcome(opera::run);
        run(opera, "act", 1);
        check.same("after a good run", 4, opera.errorPosition());
        Stage.type(opera, "pay 0 1");
        check.badState("a failing run", opera, opera::run);
        check.same("after a failing run", 4, opera.errorPosition());
        opera.undo();
        check.same("after undo", 4, opera.errorPosition());
    }

    private static void promises41And42EachFailure() {
        SilentOpera opera = Stage.withFines(5, 0);
        fails(opera, "pay 2 1", 0, 1);
        fails(opera, "pay 0 0", 0, 2);
        fails(opera, "pay 0 100", 0, 2);
        fails(opera, "pay 0 6", 0, 3);
        fails(opera, "act;whisper 91", 1, 1);
        fails(opera, "act;whisper 14", 1, 2);
        fails(opera, "mouth 2 2 1", 0, 1);
        fails(opera, "mouth 0 1 1", 0, 2);
        fails(opera, "mouth 0 2 0", 0, 2);
        fails(opera, "prop 6 200 1", 0, 1);
        fails(opera, "prop 0 200 1", 0, 2);
        fails(opera, "hush 0 1", 0, 1);
        fails(opera, "hush 2 0", 0, 1);
        fails(opera, "cancel 1", 0, 1);
        fails(opera, "hush 2 1;cancel 1;cancel 1", 2, 1);
        fails(opera, "move 2 2", 0, 1);
        fails(opera, "hush 2 1;move 1 200", 1, 2);
        fails(opera, "limit 31", 0, 1);
        fails(opera, "advance 0", 0, 1);
        fails(opera, "advance 40;advance 41", 1, 1);
        fails(opera, "act;act;act;act", 3, 1);
        fails(opera, "act;act;act;act;pay 9 0", 3, 1);
        fails(opera, "performer;performer;performer;performer;act;performer", 5, 1);
        for (int cue = 0; cue < 15; cue++) {
            opera.cueHush(2, 1);
        }
        fails(opera, "mouth 0 2 1;mouth 0 2 1", 1, 3);
        fails(opera, "prop 0 2 1;prop 0 2 1", 1, 3);
        fails(opera, "hush 2 1;hush 2 1", 1, 2);
    }

    private static void fails(SilentOpera opera, String text, int command, int exception) {
        Stage.type(opera, text);
        check.badState("run '" + text + "'", opera, opera::run);
        check.same("failed command of '" + text + "'", command, opera.failedCommand());
        check.same("failed exception of '" + text + "'", exception, opera.failedException());
    }

    private static void promises41And42KeptFailure() {
        SilentOpera opera = Stage.with(1);
        check.noElement("no failed command", opera, opera::failedCommand);
        check.noElement("no failed exception", opera, opera::failedException);
        error(opera, "x", 0);
        check.noElement("an error is no failure", opera, opera::failedCommand);
        fails(opera, "act;pay 0 9", 1, 3);
        error(opera, "act;x", 4);
        run(opera, "act", 1);
        opera.save();
        opera.undo();
        opera.restore();
        check.same("kept command", 1, opera.failedCommand());
        check.same("kept exception", 3, opera.failedException());
        fails(opera, "act;act;act;limit 31", 2, 1);
    }
}
