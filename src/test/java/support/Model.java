import java.util.ArrayDeque;
import java.util.ArrayList;
import java.util.Arrays;
import java.util.Comparator;
import java.util.Deque;
import java.util.List;
import java.util.NoSuchElementException;
import java.util.TreeMap;
import java.util.function.IntSupplier;
import java.util.regex.Matcher;
import java.util.regex.Pattern;

/** The document once more, written apart from SilentOpera and with the whole Java library. */
final class Model {
    private static final String NUMBER = "\\d{1,3}";
    private static final String COMMAND = ("(performer|pay \\d N|whisper \\d\\d|mouth \\d N \\d"
            + "|prop \\d N \\d|hush N \\d|cancel N|move N N|limit N|advance N|act)")
            .replace("N", NUMBER);
    private static final Pattern TEXT = Pattern.compile(COMMAND + "(;" + COMMAND + ")*");

    private record Cue(int id, int beat, char kind, int performer, int size) {
        int last() {
            return beat + size - 1;
        }
    }

    private static final class State {
        List<Integer> fines = new ArrayList<>();
        TreeMap<Integer, Integer> open = new TreeMap<>();
        List<Cue> cues = new ArrayList<>();
        List<Boolean> pastHushes = new ArrayList<>();
        int nextId;
        int now;
        int act;
        int limit = 6;
        Integer hushLast;
        int happened;
        int clashes;
        int imposed;
        int paid;

        State copy() {
            State copy = new State();
            copy.fines = new ArrayList<>(fines);
            copy.open = new TreeMap<>(open);
            copy.cues = new ArrayList<>(cues);
            copy.pastHushes = new ArrayList<>(pastHushes);
            copy.nextId = nextId;
            copy.now = now;
            copy.act = act;
            copy.limit = limit;
            copy.hushLast = hushLast;
            copy.happened = happened;
            copy.clashes = clashes;
            copy.imposed = imposed;
            copy.paid = paid;
            return copy;
        }

        List<Cue> at(int beat, char kind) {
            return cues.stream().filter(c -> c.beat == beat && c.kind == kind).toList();
        }

        boolean hushedNow() {
            return hushLast != null && now <= hushLast;
        }

        void passBeat() {
            now++;
            open.values().removeIf(last -> last < now);
            for (Cue hush : at(now, 'h')) {
                hushLast = hushedNow() ? Math.max(hushLast, hush.last()) : Integer.valueOf(hush.last());
            }
            for (Cue mouth : at(now, 'm')) {
                clashes += open.containsKey(mouth.performer) ? 1 : 0;
                open.merge(mouth.performer, mouth.last(), Math::max);
            }
            List<Cue> props = at(now, 'p');
            int noise = props.stream().mapToInt(Cue::size).sum();
            if (hushedNow() ? noise > 0 : noise > limit) {
                props.forEach(prop -> impose(prop.performer, prop.size));
            }
            pastHushes.add(hushedNow());
            int before = cues.size();
            cues.removeIf(c -> c.beat == now);
            happened += before - cues.size();
        }

        void impose(int performer, int fine) {
            fines.set(performer, fines.get(performer) + fine);
            imposed += fine;
        }
    }

    private State state = new State();
    private State snapshot;
    private final Deque<State> past = new ArrayDeque<>();
    private String text = "";
    private String line = "";
    private Integer error;
    private Integer failedCommand;
    private Integer failedException;

    private static void demand(boolean holds, RuntimeException exception) {
        if (!holds) {
            throw exception;
        }
    }

    private static RuntimeException index() {
        return new IndexOutOfBoundsException();
    }

    private static RuntimeException argument() {
        return new IllegalArgumentException();
    }

    private static RuntimeException illegal() {
        return new IllegalStateException();
    }

    private static RuntimeException missing() {
        return new NoSuchElementException();
    }

    private static boolean within(int low, int number, int high) {
        return low <= number && number <= high;
    }

    private int change(IntSupplier change) {
        State before = state.copy();
        int answer = change.getAsInt();
        past.addLast(before);
        if (past.size() > 8) {
            past.removeFirst();
        }
        return answer;
    }

    private void demandPerformer(int performer) {
        demand(within(0, performer, state.fines.size() - 1), index());
    }

    private Cue cue(int id) {
        return state.cues.stream().filter(c -> c.id == id).findFirst().orElseThrow(Model::missing);
    }

    private List<Cue> inOrder() {
        return state.cues.stream()
                .sorted(Comparator.comparingInt(Cue::beat).thenComparingInt(Cue::id)).toList();
    }

    private boolean allowed(int beat) {
        return within(state.now + 1, beat, 199);
    }

    // ---- changes, without their entry for undo

    private int doAddPerformer() {
        demand(state.fines.size() < 6, illegal());
        state.fines.add(0);
        return state.fines.size() - 1;
    }

    private int doPay(int performer, int coins) {
        demandPerformer(performer);
        demand(within(1, coins, 99), argument());
        demand(coins <= state.fines.get(performer), new UnsupportedOperationException());
        state.fines.set(performer, state.fines.get(performer) - coins);
        state.paid += coins;
        return state.fines.get(performer);
    }

    private int doWhisper(int performer, int loudness) {
        demandPerformer(performer);
        demand(within(1, loudness, 3), argument());
        int fine = state.hushedNow() ? 2 * loudness : 0;
        state.impose(performer, fine);
        return fine;
    }

    private int doCue(char kind, int performer, int beat, int size) {
        if (kind != 'h') {
            demandPerformer(performer);
        }
        demand(allowed(beat) && within(1, size, 9), argument());
        demand(state.cues.size() < 16, illegal());
        state.cues.add(new Cue(state.nextId, beat, kind, performer, size));
        return state.nextId++;
    }

    private int doCancel(int id) {
        state.cues.remove(cue(id));
        return state.cues.size();
    }

    private int doMove(int id, int beat) {
        Cue old = cue(id);
        demand(allowed(beat), argument());
        state.cues.remove(old);
        state.cues.add(new Cue(id, beat, old.kind, old.performer, old.size));
        return old.beat;
    }

    private int doLimit(int limit) {
        demand(within(0, limit, 30), argument());
        int old = state.limit;
        state.limit = limit;
        return old;
    }

    private int doAdvance(int beats) {
        demand(within(1, beats, 40), argument());
        int before = state.happened;
        for (int passed = 0; passed < beats; passed++) {
            state.passBeat();
        }
        return state.happened - before;
    }

    private int doAct() {
        demand(state.act < 3, illegal());
        state.open.clear();
        state.hushLast = null;
        return ++state.act;
    }

    // ---- the face, by the name of the method

    Object call(String name, int a, int b, int c) {
        switch (name) {
            case "addPerformer": return change(this::doAddPerformer);
            case "payFine": return change(() -> doPay(a, b));
            case "whisper": return change(() -> doWhisper(a, b));
            case "cueMouth": return change(() -> doCue('m', a, b, c));
            case "cueProp": return change(() -> doCue('p', a, b, c));
            case "cueHush": return change(() -> doCue('h', 0, a, b));
            case "cancelCue": return change(() -> doCancel(a));
            case "moveCue": return change(() -> doMove(a, b));
            case "setLimit": return change(() -> doLimit(a));
            case "advance": return change(() -> doAdvance(a));
            case "turnAct": return change(this::doAct);
            case "append": return append((char) a);
            case "run": return run();
            case "undo":
                demand(!past.isEmpty(), illegal());
                state = past.removeLast();
                return past.size();
            case "save":
                snapshot = state.copy();
                return state.cues.size();
            case "restore":
                demand(snapshot != null, illegal());
                state = snapshot.copy();
                past.clear();
                return state.cues.size();
            default: return query(name, a, b);
        }
    }

    private Object query(String name, int a, int b) {
        switch (name) {
            case "performerCount": return state.fines.size();
            case "now": return state.now;
            case "act": return state.act;
            case "cueCount": return state.cues.size();
            case "happenedCount": return state.happened;
            case "clashCount": return state.clashes;
            case "imposedTotal": return state.imposed;
            case "paidTotal": return state.paid;
            case "isConsistent": return true;
            case "errorPosition": return set(error);
            case "failedCommand": return set(failedCommand);
            case "failedException": return set(failedException);
            case "conflictCount":
            case "conflictCountByPass": return conflicts();
            case "noiseAt": return state.at(a, 'p').stream().mapToInt(Cue::size).sum();
            case "isHushed": return hushed(a);
            case "loudestBeat": return loudest();
            case "meanFines":
                demand(!state.fines.isEmpty(), new ArithmeticException());
                return (double) state.fines.stream().mapToInt(f -> f).sum() / (double) state.fines.size();
            case "hushedShare":
                demand(state.now > 0, new ArithmeticException());
                return (float) state.pastHushes.stream().filter(h -> h).count() / (float) state.now;
            case "lineAt":
                demand(within(0, a, line.length() - 1), index());
                return line.charAt(a);
            case "firstCueFrom":
            case "firstCueFromByScan":
                return inOrder().stream().filter(q -> q.beat >= a).findFirst()
                        .orElseThrow(Model::missing).id;
            case "cueAt":
                demand(within(0, a, state.cues.size() - 1), missing());
                return inOrder().get(a).id;
            case "performerAtRank":
                demand(within(0, a, state.fines.size() - 1), missing());
                return ranking().get(a);
            default: return partQuery(name, a, b);
        }
    }

    private Object partQuery(String name, int a, int b) {
        switch (name) {
            case "cueBeat": return cue(a).beat;
            case "cueKind": return cue(a).kind;
            case "cueSize": return cue(a).size;
            case "cuePerformer":
                demand(cue(a).kind != 'h', illegal());
                return cue(a).performer;
            case "describeCue":
                Cue q = cue(a);
                line = "#" + a + q.kind + (q.kind == 'h' ? "" : q.performer) + "@" + q.beat + "=" + q.size;
                return line.length();
            default:
        }
        demandPerformer(a);
        switch (name) {
            case "fines": return state.fines.get(a);
            case "isMouthing": return state.open.containsKey(a);
            case "describePerformer":
                int fines = state.fines.get(a);
                line = a + (state.open.containsKey(a) ? "o" : "-") + (fines > 0 ? "!" + fines : "");
                return line.length();
            case "finesAfter":
            case "finesAfterByCues":
                demand(within(0, b, 40), argument());
                return forecast(a, b);
            default: throw new AssertionError(name);
        }
    }

    private static int set(Integer number) {
        demand(number != null, missing());
        return number;
    }

    private int conflicts() {
        int pairs = 0;
        List<Cue> mouths = state.cues.stream().filter(c -> c.kind == 'm').toList();
        for (Cue one : mouths) {
            for (Cue other : mouths) {
                boolean shared = false;
                for (int beat = one.beat; beat <= one.last(); beat++) {
                    shared |= within(other.beat, beat, other.last());
                }
                pairs += one.id < other.id && one.performer == other.performer && shared ? 1 : 0;
            }
        }
        return pairs;
    }

    private boolean hushed(int beat) {
        if (beat < state.now) {
            return false;
        }
        return state.hushLast != null && beat <= state.hushLast
                || state.cues.stream().anyMatch(c -> c.kind == 'h' && within(c.beat, beat, c.last()));
    }

    private int loudest() {
        TreeMap<Integer, Integer> noise = new TreeMap<>();
        state.cues.stream().filter(c -> c.kind == 'p').forEach(c -> noise.merge(c.beat, c.size, Integer::sum));
        demand(!noise.isEmpty(), missing());
        int most = noise.values().stream().max(Integer::compare).orElseThrow();
        return noise.entrySet().stream().filter(e -> e.getValue() == most).findFirst().orElseThrow().getKey();
    }

    private List<Integer> ranking() {
        List<Integer> ranking = new ArrayList<>();
        for (int performer = 0; performer < state.fines.size(); performer++) {
            ranking.add(performer);
        }
        ranking.sort(Comparator.comparing((Integer p) -> -state.fines.get(p)).thenComparing(p ->
                -state.cues.stream().filter(c -> c.kind != 'h' && c.performer == p).count()));
        return ranking;
    }

    private int forecast(int performer, int beats) {
        State later = state.copy();
        for (int passed = 0; passed < beats; passed++) {
            later.passBeat();
        }
        return later.fines.get(performer) - state.fines.get(performer);
    }

    private int append(char sign) {
        demand(within(32, sign, 126), argument());
        demand(text.length() < 60, illegal());
        text += sign;
        return text.length();
    }

    static boolean isCommandText(String text) {
        return TEXT.matcher(text).matches();
    }

    /** The error position of a text that is not a command text. */
    static int errorPositionOf(String text) {
        int position = 0;
        while (position < text.length() && canGoOn(text.substring(0, position + 1))) {
            position++;
        }
        return position;
    }

    private static boolean canGoOn(String prefix) {
        Matcher matcher = TEXT.matcher(prefix);
        return matcher.matches() || matcher.hitEnd();
    }

    private int run() {
        String given = text;
        text = "";
        if (!isCommandText(given)) {
            error = errorPositionOf(given);
            throw argument();
        }
        String[] commands = given.split(";");
        State before = state.copy();
        for (int index = 0; index < commands.length; index++) {
            int fault = faultOf(commands[index]);
            if (fault > 0) {
                state = before;
                failedCommand = index;
                failedException = fault;
                throw illegal();
            }
        }
        State after = state;
        state = before;
        return change(() -> {
            state = after;
            return commands.length;
        });
    }

    private int faultOf(String command) {
        String[] words = command.split(" ");
        try {
            carryOut(words[0], Arrays.stream(words).skip(1).toArray(String[]::new));
            return 0;
        } catch (RuntimeException e) {
            return position(words[0], e);
        }
    }

    private void carryOut(String word, String[] given) {
        int[] n = Arrays.stream(given).mapToInt(Integer::parseInt).toArray();
        switch (word) {
            case "performer": doAddPerformer(); break;
            case "pay": doPay(n[0], n[1]); break;
            case "whisper": doWhisper(given[0].charAt(0) - '0', given[0].charAt(1) - '0'); break;
            case "mouth": doCue('m', n[0], n[1], n[2]); break;
            case "prop": doCue('p', n[0], n[1], n[2]); break;
            case "hush": doCue('h', 0, n[0], n[1]); break;
            case "cancel": doCancel(n[0]); break;
            case "move": doMove(n[0], n[1]); break;
            case "limit": doLimit(n[0]); break;
            case "advance": doAdvance(n[0]); break;
            default: doAct();
        }
    }

    /** The throws lists of the document, by command. */
    private static int position(String word, RuntimeException exception) {
        List<Class<? extends RuntimeException>> list = switch (word) {
            case "performer", "act" -> List.of(IllegalStateException.class);
            case "pay" -> List.of(IndexOutOfBoundsException.class, IllegalArgumentException.class,
                    UnsupportedOperationException.class);
            case "whisper" -> List.of(IndexOutOfBoundsException.class, IllegalArgumentException.class);
            case "mouth", "prop" -> List.of(IndexOutOfBoundsException.class,
                    IllegalArgumentException.class, IllegalStateException.class);
            case "hush" -> List.of(IllegalArgumentException.class, IllegalStateException.class);
            case "cancel" -> List.of(NoSuchElementException.class);
            case "move" -> List.of(NoSuchElementException.class, IllegalArgumentException.class);
            default -> List.of(IllegalArgumentException.class);
        };
        return list.indexOf(exception.getClass()) + 1;
    }
}
