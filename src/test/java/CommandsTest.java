import java.io.IOException;
import java.util.NoSuchElementException;

/** Promises 38 to 42 and the term 'Commands': the text, its form, and commands that fail. */
public final class CommandsTest {
    private static final Class<IllegalArgumentException> BAD_TEXT = IllegalArgumentException.class;
    private static final Class<IllegalStateException> FAILS = IllegalStateException.class;

    /** Each command with numbers of the greatest length. */
    private static final String[] COMMANDS = {"performer", "pay 0 123", "whisper 01",
        "mouth 0 123 1", "prop 0 123 1", "hush 123 1", "cancel 123", "move 123 123", "limit 123",
        "advance 123", "act"};
    /** Each command that has a number, which stands at the #. */
    private static final String[] WITH_NUMBER = {"pay 0 #", "mouth 0 # 1", "prop 0 # 1", "hush # 1",
        "cancel #", "move # 9", "move 9 #", "limit #", "advance #"};
    /** Each command that has a digit, which stands at the #. */
    private static final String[] WITH_DIGIT = {"pay # 1", "whisper #1", "whisper 1#", "mouth # 9 1",
        "mouth 0 9 #", "prop # 9 1", "prop 0 9 #", "hush 9 #"};

    private static final Check check = new Check();

    public static void main(String[] args) throws IOException {
        Sentences document = new Sentences(check);
        form(document);
        errorPositionsOfTexts(document);
        append(document);
        run(document);
        errorPosition(document);
        failure(document);
        document.end();
    }

    /** A text of the right form is carried out or fails, but has no error position. */
    private static void isCommandText(String text) {
        SilentOpera opera = Stage.run(new SilentOpera(), text);
        check.same("'" + text + "' has an error position", "NoSuchElementException",
                Check.outcome(opera::errorPosition));
    }

    private static void hasErrorAt(int position, String text) {
        SilentOpera opera = Stage.type(new SilentOpera(), text);
        check.same("run '" + text + "'", "IllegalArgumentException", Check.outcome(opera::run));
        check.same("error position of '" + text + "'", position, opera.errorPosition());
    }

    private static void runs(String text, int commands, SilentOpera opera) {
        check.same("run '" + text + "'", commands,
                Check.outcome(Stage.type(opera, text)::run));
    }

    private static void fails(String text, int command, int exception, Check.Setting setting) {
        check.refusesText(FAILS, setting, text);
        SilentOpera opera = Stage.run(setting.make(), text);
        check.same("failed command of '" + text + "'", command, opera.failedCommand());
        check.same("failed exception of '" + text + "'", exception, opera.failedException());
    }

    private static void form(Sentences document) {
        document.in("Commands");
        document.says("The command text is a buffer of at most 60 characters.",
                CommandsTest::sixtyCharacters);
        document.says("A command text has the following form, where braces mean zero or more"
                + " repetitions and brackets an optional part:", CommandsTest::emptyTexts);
        document.says("text = command { \";\" command }", CommandsTest::repeatedCommands);
        document.says("command = \"performer\" | \"pay \" digit \" \" number | \"whisper \" digit"
                + " digit | \"mouth \" digit \" \" number \" \" digit | \"prop \" digit \" \" number"
                + " \" \" digit | \"hush \" number \" \" digit | \"cancel \" number | \"move \""
                + " number \" \" number | \"limit \" number | \"advance \" number | \"act\"", () -> {
                    eachCommand();
                    singleDigits();
                    singleSpaces();
                });
        document.says("number = digit [ digit ] [ digit ]", CommandsTest::numbers);
        document.says("The commands call addPerformer(), payFine(), whisper(), cueMouth(),"
                + " cueProp(), cueHush(), cancelCue(), moveCue(), setLimit(), advance() and"
                + " turnAct(), with the numbers of the command as parameters in their order.",
                () -> {
                    callsOfCommands();
                    valuesOfNumbers();
                });
    }

    private static void sixtyCharacters() {
        String start = "performer;performer;performer;performer;performer;";
        SilentOpera longest = Stage.type(new SilentOpera(), start + "advance 1");
        check.same("59 characters, and one more", 60, longest.append('0'));
        check.same("60 characters, and one more", "IllegalStateException",
                Check.outcome(() -> longest.append('0')));
        check.same("run 60 characters", 6, longest.run());
        check.same("the 60th character counts", 10, longest.now());
        SilentOpera shorter = new SilentOpera();
        runs(start + "performer", 6, shorter);
        check.same("59 characters are carried out", 6, shorter.performerCount());
        runs("limit 0;limit 1;limit 2;limit 3;limit 4;limit 5;act;act;act", 9, shorter);
        check.same("nine commands", 5, shorter.setLimit(6));
    }

    private static void emptyTexts() {
        check.refusesText(BAD_TEXT, () -> Stage.then(Stage.rich(1), SilentOpera::run), "");
        for (String text : new String[] {"", " ", ";", "1", "?"}) {
            hasErrorAt(0, text);
        }
        isCommandText("act");
    }

    private static void repeatedCommands() {
        StringBuilder text = new StringBuilder("act");
        for (int commands = 1; commands <= 15; commands++) {
            isCommandText(text.toString());
            hasErrorAt(text.length() + 1, text + ";");
            text.append(";act");
        }
        runs("act", 1, new SilentOpera());
        runs("act;act", 2, new SilentOpera());
        for (String second : COMMANDS) {
            isCommandText("act;" + second);
            isCommandText(second + ";act");
            hasErrorAt(0, ";" + second);
            hasErrorAt(second.length() + 1, second + ";");
            hasErrorAt(second.length() + 1, second + ";;act");
            hasErrorAt(second.length() + 1, second + "; act");
            hasErrorAt(second.length(), second + " ;act");
            hasErrorAt(second.length(), second + ",act");
        }
    }

    private static void eachCommand() {
        for (String command : COMMANDS) {
            isCommandText(command);
            hasErrorAt(0, " " + command);
            hasErrorAt(command.length(), command + " ");
            hasErrorAt(command.length(), command + "1");
            hasErrorAt(command.length(), command + "x");
        }
    }

    private static void singleDigits() {
        for (String command : WITH_DIGIT) {
            int at = command.indexOf('#');
            for (char digit = '0'; digit <= '9'; digit++) {
                isCommandText(command.replace('#', digit));
            }
            hasErrorAt(at, command.replace('#', (char) ('0' - 1)));
            hasErrorAt(at, command.replace('#', (char) ('9' + 1)));
            hasErrorAt(at, command);
            boolean isLast = at == command.length() - 1;
            hasErrorAt(at, isLast ? command.replace("#", "") : command.replace("#", " "));
            if (!command.equals("whisper #1")) {
                hasErrorAt(at + 1, command.replace("#", "11"));
            }
        }
        hasErrorAt(10, "whisper 111");
        hasErrorAt(9, "whisper 1");
    }

    private static void singleSpaces() {
        for (String command : COMMANDS) {
            for (int at = command.indexOf(' '); at >= 0; at = command.indexOf(' ', at + 1)) {
                String head = command.substring(0, at);
                String tail = command.substring(at + 1);
                hasErrorAt(at + 1, head + "  " + tail);
                // Without the space, the next digit may still belong to the number before it.
                boolean isInNumber = head.matches(".* \\d{1,2}") && !head.matches("(pay|mouth|prop) \\d");
                if (!isInNumber) {
                    hasErrorAt(at, head + tail);
                }
            }
        }
    }

    private static void numbers() {
        for (String command : WITH_NUMBER) {
            int at = command.indexOf('#');
            for (String number : new String[] {"0", "9", "00", "99", "000", "999", "042"}) {
                isCommandText(command.replace("#", number));
            }
            hasErrorAt(at, command.substring(0, at));
            hasErrorAt(at, command.replace("#", " "));
            hasErrorAt(at, command.replace("#", "-1"));
            hasErrorAt(at + 3, command.replace("#", "0000"));
            hasErrorAt(at + 3, command.replace("#", "1234"));
            for (String digits : new String[] {"", "1", "12"}) {
                hasErrorAt(at + digits.length(), command.replace("#", digits + (char) ('0' - 1)));
                hasErrorAt(at + digits.length(), command.replace("#", digits + (char) ('9' + 1)));
            }
        }
    }

    private static void callsOfCommands() {
        calls("performer", SilentOpera::addPerformer);
        calls("pay 1 2", opera -> opera.payFine(1, 2));
        calls("whisper 12", opera -> opera.whisper(1, 2));
        calls("mouth 1 25 3", opera -> opera.cueMouth(1, 25, 3));
        calls("prop 1 25 3", opera -> opera.cueProp(1, 25, 3));
        calls("hush 25 3", opera -> opera.cueHush(25, 3));
        calls("cancel 4", opera -> opera.cancelCue(4));
        calls("move 5 31", opera -> opera.moveCue(5, 31));
        calls("limit 17", opera -> opera.setLimit(17));
        calls("advance 21", opera -> opera.advance(21));
        calls("act", SilentOpera::turnAct);
    }

    private static SilentOpera withoutText() {
        return Stage.run(Stage.rich(2), "?");
    }

    private static void calls(String command, Check.Act call) {
        check.sameAfter("command '" + command + "'",
                Aftermath.of(() -> Stage.then(withoutText(), call)),
                Aftermath.of(() -> Stage.then(Stage.type(withoutText(), command),
                        SilentOpera::run)));
    }

    private static void valuesOfNumbers() {
        SilentOpera opera = Stage.with(6);
        runs("hush 007 9;hush 1 1;hush 012 2;hush 199 3;hush 20 4", 5, opera);
        int[] beats = {7, 1, 12, 199, 20};
        for (int cue = 0; cue < beats.length; cue++) {
            check.same("beat of " + cue, beats[cue], opera.cueBeat(cue));
        }
        runs("mouth 5 021 8;prop 4 30 7;move 004 029;advance 001;limit 00", 5, opera);
        check.same("performer of a mouth", 5, opera.cuePerformer(5));
        check.same("beat of a mouth", 21, opera.cueBeat(5));
        check.same("length of a mouth", 8, opera.cueSize(5));
        check.same("performer of a prop", 4, opera.cuePerformer(6));
        check.same("beat of a prop", 30, opera.cueBeat(6));
        check.same("loudness of a prop", 7, opera.cueSize(6));
        check.same("moved", 29, opera.cueBeat(4));
        check.same("advanced", 1, opera.now());
        check.same("limit", 0, opera.setLimit(6));
        fails("cancel 000;limit 000;advance 000", 2, 1, () -> Stage.withProps(1));
        fails("limit 999", 0, 1, SilentOpera::new);
    }

    private static void errorPositionsOfTexts(Sentences document) {
        document.says("The error position of a text is the index of the first character that cannot"
                + " continue any command text.", CommandsTest::eachCharacterAtEachPlace);
        document.says("If every character can, the error position is the length of the text.",
                CommandsTest::textsThatBreakOff);
        document.says("Keywords are matched character by character.", CommandsTest::keywords);
    }

    /** Behind each beginning of each command, each character, against the model's answer. */
    private static void eachCharacterAtEachPlace() {
        for (String command : COMMANDS) {
            for (int length = 0; length <= command.length(); length++) {
                for (char sign = 32; sign <= 126; sign++) {
                    String text = "act;" + command.substring(0, length) + sign;
                    if (Model.isCommandText(text)) {
                        isCommandText(text);
                    } else {
                        hasErrorAt(Model.errorPositionOf(text), text);
                    }
                }
            }
        }
        hasErrorAt(5, "limit7;x");
        hasErrorAt(8, "limit 7;x;y");
    }

    private static void textsThatBreakOff() {
        hasErrorAt(0, "");
        for (String command : COMMANDS) {
            for (int length = 0; length < command.length(); length++) {
                String start = command.substring(0, length);
                if (!Model.isCommandText(start)) {
                    hasErrorAt(length, start);
                    hasErrorAt(length, start + "~");
                    hasErrorAt(length + 4, "act;" + start);
                }
            }
        }
        String acts = "act;act;act;act;act;act;act;act;act;act;act;act;act;act;";
        hasErrorAt(58, acts + "ac;");
        hasErrorAt(60, acts + "act;");
        hasErrorAt(60, acts + "limi");
        hasErrorAt(58, acts + "acx");
        hasErrorAt(59, acts + "act?");
    }

    private static void keywords() {
        hasErrorAt(0, "Act");
        hasErrorAt(1, "aCT");
        hasErrorAt(2, "acT");
        String[] shared = {"pay", "performer", "prop", "mouth", "move", "act", "advance"};
        for (String one : shared) {
            for (String other : shared) {
                mixed(one, other);
            }
        }
        hasErrorAt(1, "pct");
        hasErrorAt(2, "whysper 01");
        hasErrorAt(3, "hus 1 1");
        hasErrorAt(7, "performr");
        hasErrorAt(2, "mo");
        hasErrorAt(3, "mov");
        hasErrorAt(3, "mou");
    }

    /** The beginning of one keyword goes on as another one does. */
    private static void mixed(String one, String other) {
        for (int length = 1; length < Math.min(one.length(), other.length()); length++) {
            String text = one.substring(0, length) + other.substring(length);
            if (!Model.isCommandText(text)) {
                hasErrorAt(Model.errorPositionOf(text), text);
            }
        }
    }

    private static void append(Sentences document) {
        document.in("Promise 38");
        document.says("Appends a character to the command text.", CommandsTest::appendsInOrder);
        document.saysToo("- `character`: the character");
        document.says("Returns the length of the command text after the call.",
                CommandsTest::lengths);
        document.says("Throws `IllegalArgumentException` if the code of the character is not from 32"
                + " to 126", CommandsTest::codes);
        document.says("Throws `IllegalStateException` if the command text has 60 characters",
                CommandsTest::fullText);
    }

    private static void appendsInOrder() {
        SilentOpera opera = new SilentOpera();
        runs("limit 12", 1, opera);
        check.same("limit", 12, opera.setLimit(6));
        runs("limit 21", 1, opera);
        check.same("limit", 21, opera.setLimit(6));
    }

    private static void lengths() {
        SilentOpera opera = new SilentOpera();
        for (int length = 1; length <= 60; length++) {
            check.same("append", length, opera.append('x'));
        }
        Check.outcome(opera::run);
        check.same("after run", 1, opera.append('x'));
        Check.outcome(() -> opera.append((char) 31));
        check.same("after a refused one", 2, opera.append('x'));
    }

    private static SilentOpera ofLength(int length) {
        return Stage.type(new SilentOpera(), "x".repeat(length));
    }

    private static void codes() {
        for (char code = 32; code <= 126; code++) {
            check.same("code " + (int) code, 1, new SilentOpera().append(code));
        }
        for (int code : new int[] {0, 10, 31, 127, 128, 32 + 256, 126 + 256, 65535}) {
            check.refuses("code " + code, BAD_TEXT, () -> Stage.rich(1),
                    opera -> opera.append((char) code));
            check.refuses("code " + code + " in an empty text", BAD_TEXT, SilentOpera::new,
                    opera -> opera.append((char) code));
        }
    }

    private static void fullText() {
        check.same("a 59th", 59, ofLength(58).append('x'));
        check.same("a 60th", 60, ofLength(59).append('x'));
        for (char sign : new char[] {' ', ';', 'x', '~'}) {
            check.refuses("a 61st '" + sign + "'", FAILS, () -> ofLength(60),
                    opera -> opera.append(sign));
        }
        check.same("the text is empty after run", 1, Stage.run(ofLength(60), "").append('x'));
    }

    private static void run(Sentences document) {
        document.in("Promise 39");
        document.says("Parses the command text and carries out its commands in order.",
                CommandsTest::inOrder);
        document.says("Either all commands are carried out, or none.", CommandsTest::allOrNone);
        document.says("The command text is empty after the call, also if an exception is thrown.",
                CommandsTest::emptyAfterwards);
        document.says("The first command whose method would throw an exception is the failed"
                + " command.", CommandsTest::firstThatFails);
        document.says("Returns the number of commands.", CommandsTest::numberOfCommands);
        document.says("Throws `IllegalArgumentException` if the text is not a command text; the"
                + " error position is set and the failure is left as it is",
                CommandsTest::noCommandText);
        document.says("Throws `IllegalStateException` if a command fails; the failure is set and the"
                + " error position is left as it is", CommandsTest::aCommandFails);
    }

    private static void inOrder() {
        SilentOpera opera = new SilentOpera();
        runs("performer;hush 2 9;advance 2;whisper 03;pay 0 5;limit 3", 6, opera);
        check.same("fines", 1, opera.fines(0));
        runs("limit 4;limit 5", 2, opera);
        check.same("the last limit", 5, opera.setLimit(6));
        runs("hush 3 1;advance 1;hush 4 1", 3, opera);
        check.same("the later cue", 4, opera.cueBeat(2));
    }

    private static void allOrNone() {
        Check.Setting setting = CommandsTest::withoutText;
        String all = "performer;hush 5 9;cancel 5;advance 3;limit 4;act";
        runs(all, 6, setting.make());
        fails("cancel 99;" + all, 0, 1, setting);
        fails("performer;hush 5 9;cancel 99;advance 3;limit 4;act", 2, 1, setting);
        fails(all + ";pay 0 99", 6, 3, setting);
        fails("act;act;act", 2, 1, setting);
        SilentOpera once = Stage.run(setting.make(), all);
        check.same("performers", 3, once.performerCount());
        check.same("now", 6, once.now());
        check.same("act", 2, once.act());
        check.same("limit", 4, once.setLimit(6));
    }

    private static void emptyAfterwards() {
        for (String text : new String[] {"act", "x", "pay 0 1", ""}) {
            SilentOpera opera = Stage.run(new SilentOpera(), text);
            check.same("after '" + text + "'", 1, opera.append('a'));
            runs("ct", 1, opera);
        }
        check.same("after a full text", 1, Stage.run(ofLength(60), "").append('x'));
    }

    private static void firstThatFails() {
        fails("limit 31;advance 41;act", 0, 1, SilentOpera::new);
        fails("act;advance 41;limit 31", 1, 1, SilentOpera::new);
        fails("advance 5;hush 6 1;hush 5 1", 2, 1, SilentOpera::new);
        fails("hush 9 1;cancel 0;cancel 0", 2, 1, SilentOpera::new);
        fails("performer;whisper 01;whisper 11", 2, 1, SilentOpera::new);
        fails("act;act;act;act;act;act;act;act;act;act;act;act;act;act;act", 3, 1,
                SilentOpera::new);
        runs("performer;mouth 0 1 1", 2, new SilentOpera());
    }

    private static void numberOfCommands() {
        StringBuilder text = new StringBuilder("limit 1");
        for (int commands = 1; commands <= 7; commands++) {
            runs(text.toString(), commands, new SilentOpera());
            text.append(";limit 1");
        }
        runs("act;act;act;limit 0;limit 1;limit 2;limit 3;limit 4;limit 5", 9, new SilentOpera());
    }

    /** Error position 2, and the failure of command 1 by its third exception. */
    private static SilentOpera withReports() {
        SilentOpera opera = Stage.withFines(5, 5);
        Stage.run(opera, "pe?");
        return Stage.run(opera, "act;pay 0 6");
    }

    private static void reports(String what, SilentOpera opera, int error, int command,
            int exception) {
        check.same(what + ", error position", error, opera.errorPosition());
        check.same(what + ", failed command", command, opera.failedCommand());
        check.same(what + ", failed exception", exception, opera.failedException());
    }

    private static void noCommandText() {
        reports("before", withReports(), 2, 1, 3);
        for (String text : new String[] {"", "x", "act;", "act;x", "cancel 99;x", "act;pay 0 9;"}) {
            check.refusesText(BAD_TEXT, CommandsTest::withReports, text);
            SilentOpera opera = Stage.run(withReports(), text);
            reports("after '" + text + "'", opera, Model.errorPositionOf(text), 1, 3);
        }
        SilentOpera fresh = Stage.run(new SilentOpera(), "cancel 99;x");
        check.same("still no failed command", "NoSuchElementException",
                Check.outcome(fresh::failedCommand));
        check.same("still no failed exception", "NoSuchElementException",
                Check.outcome(fresh::failedException));
    }

    private static void aCommandFails() {
        check.refusesText(FAILS, CommandsTest::withReports, "pay 0 0");
        reports("after another failure", Stage.run(withReports(), "pay 0 0"), 2, 0, 2);
        reports("after the same failure", Stage.run(withReports(), "act;pay 0 6"), 2, 1, 3);
        check.same("still no error position", "NoSuchElementException",
                Check.outcome(Stage.run(new SilentOpera(), "pay 0 1")::errorPosition));
        fails("performer", 0, 1, () -> Stage.with(6));
        check.same("a sixth performer", 1, Stage.type(Stage.with(5), "performer").run());
    }

    private static void errorPosition(Sentences document) {
        document.in("Promise 40");
        document.says("Returns the error position that was set last.",
                CommandsTest::lastErrorPosition);
        document.saysToo("Returns the error position.");
        document.says("Throws `NoSuchElementException` if no error position was set",
                () -> notSet(SilentOpera::errorPosition, "act", "cancel 0"));
    }

    private static void lastErrorPosition() {
        SilentOpera opera = Stage.run(new SilentOpera(), "act;x");
        check.same("the first", 4, opera.errorPosition());
        Stage.run(opera, "");
        check.same("0", 0, opera.errorPosition());
        Stage.run(opera, "act;ac");
        check.same("the last", 6, opera.errorPosition());
        Stage.run(opera, "act");
        check.same("after a good run", 6, opera.errorPosition());
        Stage.run(opera, "cancel 9");
        check.same("after a failing run", 6, opera.errorPosition());
    }

    private interface Report {
        int of(SilentOpera opera);
    }

    /** In a new object, with a text that is not run, and after texts of the other outcomes. */
    private static void notSet(Report report, String... texts) {
        Class<? extends RuntimeException> due = NoSuchElementException.class;
        check.refuses("in a new object", due, SilentOpera::new, report::of);
        check.refuses("with a text that is not run", due,
                () -> Stage.type(new SilentOpera(), "x"), report::of);
        for (String text : texts) {
            check.refuses("after '" + text + "'", due,
                    () -> Stage.run(new SilentOpera(), text), report::of);
        }
    }

    private static void failure(Sentences document) {
        document.in("Promise 41");
        document.says("Returns the index of the failed command of the latest run in which a command"
                + " failed.", CommandsTest::latestFailure);
        document.says("Returns the index, from 0.", CommandsTest::indexes);
        document.says("Throws `NoSuchElementException` if no command has failed",
                () -> notSet(SilentOpera::failedCommand, "act", "x", "cancel 0;x"));

        document.in("Promise 42");
        document.says("Returns the position that the exception of the failed command has in the"
                + " throws list of its method.", CommandsTest::eachException);
        document.says("Returns the position, from 1.", CommandsTest::positions);
        document.says("Throws `NoSuchElementException` if no command has failed",
                () -> notSet(SilentOpera::failedException, "act", "x", "cancel 0;x"));
    }

    private static void latestFailure() {
        SilentOpera opera = Stage.run(new SilentOpera(), "act;act;cancel 0");
        check.same("the first", 2, opera.failedCommand());
        Stage.run(opera, "act;cancel 0");
        check.same("the latest", 1, opera.failedCommand());
        Stage.run(opera, "act;act");
        check.same("after a good run", 1, opera.failedCommand());
        Stage.run(opera, "act;act;x");
        check.same("after an error", 1, opera.failedCommand());
        Check.outcome(() -> opera.cancelCue(0));
        check.same("after a call that failed", 1, opera.failedCommand());
    }

    private static void indexes() {
        String before = "";
        for (int index = 0; index <= 6; index++) {
            fails(before + "act;act", index + 1, 1, () -> Stage.then(new SilentOpera(),
                    SilentOpera::turnAct, SilentOpera::turnAct));
            fails(before + "hush 0 1", index, 1, SilentOpera::new);
            before += "limit 9;";
        }
    }

    private static void eachException() {
        Check.Setting two = () -> Stage.withFines(5, 0);
        fails("pay 2 1", 0, 1, two);
        fails("pay 0 0", 0, 2, two);
        fails("pay 0 100", 0, 2, two);
        fails("pay 0 6", 0, 3, two);
        fails("pay 1 99", 0, 3, two);
        fails("pay 9 0", 0, 1, two);
        fails("whisper 21", 0, 1, two);
        fails("whisper 10", 0, 2, two);
        fails("whisper 14", 0, 2, two);
        fails("whisper 90", 0, 1, two);
        fails("hush 1 1", 0, 1, two);
        fails("hush 200 1", 0, 1, two);
        fails("hush 2 0", 0, 1, two);
        fails("cancel 0;cancel 1", 0, 1, two);
        fails("move 0 0", 0, 1, two);
        fails("hush 2 1;move 1 1", 1, 2, two);
        fails("hush 2 1;move 1 200", 1, 2, two);
        fails("limit 31", 0, 1, two);
        fails("advance 0", 0, 1, two);
        fails("advance 41", 0, 1, two);
        fails("act;act;act;act", 3, 1, two);
        fails("performer", 0, 1, () -> Stage.with(6));
        for (String kind : new String[] {"mouth", "prop"}) {
            fails(kind + " 2 2 1", 0, 1, two);
            fails(kind + " 0 1 1", 0, 2, two);
            fails(kind + " 0 200 1", 0, 2, two);
            fails(kind + " 0 2 0", 0, 2, two);
            fails(kind + " 2 200 0", 0, 1, two);
            fails(kind + " 0 9 1;" + kind + " 0 9 1", 1, 3, () -> Stage.withProps(15));
            fails(kind + " 0 200 1", 0, 2, () -> Stage.withProps(16));
            fails(kind + " 1 200 1", 0, 1, () -> Stage.withProps(16));
        }
        fails("hush 9 1;hush 9 1", 1, 2, () -> Stage.withProps(15));
        fails("hush 9 0", 0, 1, () -> Stage.withProps(16));
    }

    private static void positions() {
        SilentOpera opera = Stage.withFines(5);
        String[] texts = {"pay 1 1", "pay 0 100", "pay 0 6"};
        for (int position = 1; position <= 3; position++) {
            Stage.run(opera, texts[position - 1]);
            check.same("position of " + texts[position - 1], position, opera.failedException());
        }
        Stage.run(opera, "act;x");
        check.same("after an error", 3, opera.failedException());
        Stage.run(opera, "act");
        check.same("after a good run", 3, opera.failedException());
        Stage.run(opera, "act;cancel 0");
        check.same("the latest", 1, opera.failedException());
    }
}
