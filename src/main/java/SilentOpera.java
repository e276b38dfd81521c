import java.util.Arrays;
import java.util.NoSuchElementException;

/**
 * A cue sheet for the rehearsals of a silent opera: performers open their mouths and drop props on
 * cue, hushes forbid noise, and noise is fined.
 */
public final class SilentOpera {
    private static final int NONE = -1;

    private static final int MAX_PERFORMERS = 6;
    private static final int MAX_CUES = 16;
    private static final int MAX_UNDO = 8;
    private static final int MAX_TEXT = 60;
    // The shortest command is "act", and a semicolon stands between two; one more may be begun.
    private static final int MAX_COMMANDS = MAX_TEXT / 4 + 1;
    private static final int MAX_NUMBERS = 3;

    private static final int LAST_CUE_BEAT = 199;
    private static final int LAST_ACT = 3;
    private static final int MAX_COINS = 99;
    private static final int MAX_WHISPER = 3;
    private static final int MAX_SIZE = 9;
    private static final int MAX_LIMIT = 30;
    private static final int MAX_ADVANCE = 40;
    private static final int SHORT_LOOK = 10;
    private static final int FIRST_LIMIT = 6;

    // What a new row holds.
    private static final char FREE = 0;
    private static final char MOUTH = 'm';
    private static final char PROP = 'p';
    private static final char HUSH = 'h';

    // A change that is refused answers minus the position of its exception in the throws list: no
    // change that is carried out answers less than 0, and so run() learns the position as well.
    private static final int FIRST_FAULT = -1;
    private static final int SECOND_FAULT = -2;
    private static final int THIRD_FAULT = -3;

    private final Sheet sheet = new Sheet();
    private final Sheet trial = new Sheet();
    private final Sheet snapshot = new Sheet();
    private final History history = new History();
    private final CommandReader reader = new CommandReader();
    private final StringBuilder line = new StringBuilder();
    private boolean hasSnapshot = false;
    private int lastErrorPosition = NONE;
    private int lastFailedCommand = NONE;
    private int lastFailedException = NONE;

    public SilentOpera() {
    }

    // ---- performers

    public int addPerformer() throws IllegalStateException {
        history.prepare(sheet);
        int answer = sheet.join();
        if (answer == FIRST_FAULT) {
            throw new IllegalStateException("there are 6 performers");
        }
        history.keep();
        return answer;
    }

    public int performerCount() {
        return sheet.performers;
    }

    public int fines(int performer) throws IndexOutOfBoundsException {
        if (!sheet.hasPerformer(performer)) {
            throw new IndexOutOfBoundsException("no such performer");
        }
        return sheet.owed[performer];
    }

    public int payFine(int performer, int coins)
            throws IndexOutOfBoundsException, IllegalArgumentException,
            UnsupportedOperationException {
        history.prepare(sheet);
        int answer = sheet.pay(performer, coins);
        if (answer == FIRST_FAULT) {
            throw new IndexOutOfBoundsException("no such performer");
        }
        if (answer == SECOND_FAULT) {
            throw new IllegalArgumentException("the coins are not from 1 to 99");
        }
        if (answer == THIRD_FAULT) {
            throw new UnsupportedOperationException("the coins are more than the fines");
        }
        history.keep();
        return answer;
    }

    public boolean isMouthing(int performer) throws IndexOutOfBoundsException {
        if (!sheet.hasPerformer(performer)) {
            throw new IndexOutOfBoundsException("no such performer");
        }
        return sheet.isOpen(performer);
    }

    public int whisper(int performer, int loudness)
            throws IndexOutOfBoundsException, IllegalArgumentException {
        history.prepare(sheet);
        int answer = sheet.hiss(performer, loudness);
        if (answer == FIRST_FAULT) {
            throw new IndexOutOfBoundsException("no such performer");
        }
        if (answer == SECOND_FAULT) {
            throw new IllegalArgumentException("the loudness is not from 1 to 3");
        }
        history.keep();
        return answer;
    }

    public int performerAtRank(int rank) throws NoSuchElementException {
        int performer = sheet.ranked(rank);
        if (performer == NONE) {
            throw new NoSuchElementException("no such rank");
        }
        return performer;
    }

    // ---- cues

    public int cueMouth(int performer, int beat, int length)
            throws IndexOutOfBoundsException, IllegalArgumentException, IllegalStateException {
        return addPlayed(MOUTH, performer, beat, length);
    }

    public int cueProp(int performer, int beat, int loudness)
            throws IndexOutOfBoundsException, IllegalArgumentException, IllegalStateException {
        return addPlayed(PROP, performer, beat, loudness);
    }

    private int addPlayed(char kind, int performer, int beat, int size) {
        history.prepare(sheet);
        int answer = sheet.putPlayed(kind, performer, beat, size);
        if (answer == FIRST_FAULT) {
            throw new IndexOutOfBoundsException("no such performer");
        }
        if (answer == SECOND_FAULT) {
            throw new IllegalArgumentException("the beat or the size is not allowed");
        }
        if (answer == THIRD_FAULT) {
            throw new IllegalStateException("16 cues are pending");
        }
        history.keep();
        return answer;
    }

    public int cueHush(int beat, int length)
            throws IllegalArgumentException, IllegalStateException {
        history.prepare(sheet);
        int answer = sheet.putHush(beat, length);
        if (answer == FIRST_FAULT) {
            throw new IllegalArgumentException("the beat or the length is not allowed");
        }
        if (answer == SECOND_FAULT) {
            throw new IllegalStateException("16 cues are pending");
        }
        history.keep();
        return answer;
    }

    public int cancelCue(int cue) throws NoSuchElementException {
        history.prepare(sheet);
        int answer = sheet.cancel(cue);
        if (answer == FIRST_FAULT) {
            throw new NoSuchElementException("no pending cue has this id");
        }
        history.keep();
        return answer;
    }

    public int moveCue(int cue, int beat) throws NoSuchElementException, IllegalArgumentException {
        history.prepare(sheet);
        int answer = sheet.move(cue, beat);
        if (answer == FIRST_FAULT) {
            throw new NoSuchElementException("no pending cue has this id");
        }
        if (answer == SECOND_FAULT) {
            throw new IllegalArgumentException("the beat is not allowed");
        }
        history.keep();
        return answer;
    }

    public int cueCount() {
        return sheet.cues.count;
    }

    public int cueAt(int rank) throws NoSuchElementException {
        int slot = sheet.cues.slotAt(rank);
        if (!CueTree.isSlot(slot)) {
            throw new NoSuchElementException("no such rank");
        }
        return sheet.cues.ids[slot];
    }

    public int firstCueFrom(int beat) throws NoSuchElementException {
        return idAt(sheet.cues.firstFrom(beat));
    }

    public int firstCueFromByScan(int beat) throws NoSuchElementException {
        return idAt(sheet.cues.firstFromScanned(beat));
    }

    private int idAt(int slot) {
        if (!CueTree.isSlot(slot)) {
            throw new NoSuchElementException("no pending cue from this beat on");
        }
        return sheet.cues.ids[slot];
    }

    public int cueBeat(int cue) throws NoSuchElementException {
        return sheet.cues.beats[pendingSlot(cue)];
    }

    public char cueKind(int cue) throws NoSuchElementException {
        return sheet.cues.kinds[pendingSlot(cue)];
    }

    public int cueSize(int cue) throws NoSuchElementException {
        return sheet.cues.sizes[pendingSlot(cue)];
    }

    public int cuePerformer(int cue) throws NoSuchElementException, IllegalStateException {
        int slot = pendingSlot(cue);
        if (sheet.cues.kinds[slot] == HUSH) {
            throw new IllegalStateException("a hush has no performer");
        }
        return sheet.cues.players[slot];
    }

    private int pendingSlot(int cue) {
        int slot = sheet.cues.slotOf(cue);
        if (!CueTree.isSlot(slot)) {
            throw new NoSuchElementException("no pending cue has this id");
        }
        return slot;
    }

    public int conflictCount() {
        return sheet.cues.conflicts();
    }

    public int conflictCountByPass() {
        return sheet.cues.conflictsPassed();
    }

    // ---- noise and hushes

    public int setLimit(int limit) throws IllegalArgumentException {
        history.prepare(sheet);
        int answer = sheet.limitNoise(limit);
        if (answer == FIRST_FAULT) {
            throw new IllegalArgumentException("the limit is not from 0 to 30");
        }
        history.keep();
        return answer;
    }

    public int noiseAt(int beat) {
        return sheet.cues.noiseOn(beat);
    }

    public boolean isHushed(int beat) {
        return sheet.isSilent(beat);
    }

    public int loudestBeat() throws NoSuchElementException {
        int beat = sheet.cues.loudest();
        if (beat == NONE) {
            throw new NoSuchElementException("no prop is pending");
        }
        return beat;
    }

    // ---- beats and acts

    public int advance(int beats) throws IllegalArgumentException {
        history.prepare(sheet);
        int answer = sheet.pass(beats);
        if (answer == FIRST_FAULT) {
            throw new IllegalArgumentException("the beats are not from 1 to 40");
        }
        history.keep();
        return answer;
    }

    public int turnAct() throws IllegalStateException {
        history.prepare(sheet);
        int answer = sheet.openAct();
        if (answer == FIRST_FAULT) {
            throw new IllegalStateException("the act is 3");
        }
        history.keep();
        return answer;
    }

    public int now() {
        return sheet.beat;
    }

    public int act() {
        return sheet.actNumber;
    }

    public int finesAfter(int performer, int beats)
            throws IndexOutOfBoundsException, IllegalArgumentException {
        checkForecast(performer, beats);
        passOnTrial(beats);
        return trial.owed[performer] - sheet.owed[performer];
    }

    public int finesAfterByCues(int performer, int beats)
            throws IndexOutOfBoundsException, IllegalArgumentException {
        checkForecast(performer, beats);
        return sheet.foreseen(performer, beats);
    }

    private void checkForecast(int performer, int beats) {
        if (!sheet.hasPerformer(performer)) {
            throw new IndexOutOfBoundsException("no such performer");
        }
        if (beats < 0 || beats > MAX_ADVANCE) {
            throw new IllegalArgumentException("the beats are not from 0 to 40");
        }
    }

    private void passOnTrial(int beats) {
        trial.copyFrom(sheet);
        if (beats > 0) {
            trial.pass(beats);
        }
    }

    // ---- totals

    public int happenedCount() {
        return sheet.happened;
    }

    public int clashCount() {
        return sheet.clashes;
    }

    public int imposedTotal() {
        return sheet.imposed;
    }

    public int paidTotal() {
        return sheet.paid;
    }

    // ---- commands

    public int append(char character) throws IllegalArgumentException, IllegalStateException {
        if (character < 32 || character > 126) {
            throw new IllegalArgumentException("the code of the character is not from 32 to 126");
        }
        if (reader.text.length() >= MAX_TEXT) {
            throw new IllegalStateException("the command text has 60 characters");
        }
        reader.text.append(character);
        return reader.text.length();
    }

    public int run() throws IllegalArgumentException, IllegalStateException {
        boolean isRead = reader.readAll();
        reader.text.setLength(0);
        if (!isRead) {
            lastErrorPosition = reader.position;
            throw new IllegalArgumentException("the text is not a command text");
        }
        history.prepare(sheet);
        if (!carryOutAll()) {
            history.rollBack(sheet);
            throw new IllegalStateException("a command fails");
        }
        history.keep();
        return reader.count;
    }

    /** Carries out the commands that were read, up to one that fails, which becomes the failure. */
    private boolean carryOutAll() {
        for (int index = 0; index < reader.count && index < MAX_COMMANDS; index++) {
            int answer = carryOut(reader.commands[index]);
            if (answer < 0) {
                lastFailedCommand = index;
                lastFailedException = -answer;
                return false;
            }
        }
        return true;
    }

    private int carryOut(Command command) {
        int first = command.numbers[0];
        int second = command.numbers[1];
        int third = command.numbers[2];
        switch (command.form) {
            case PERFORMER:
                return sheet.join();
            case PAY:
                return sheet.pay(first, second);
            case WHISPER:
                return sheet.hiss(first, second);
            case MOUTH_CUE:
                return sheet.putPlayed(MOUTH, first, second, third);
            case PROP_CUE:
                return sheet.putPlayed(PROP, first, second, third);
            case HUSH_CUE:
                return sheet.putHush(first, second);
            case CANCEL:
                return sheet.cancel(first);
            case MOVE:
                return sheet.move(first, second);
            case LIMIT:
                return sheet.limitNoise(first);
            case ADVANCE:
                return sheet.pass(first);
            default:
                return sheet.openAct();
        }
    }

    public int errorPosition() throws NoSuchElementException {
        if (lastErrorPosition == NONE) {
            throw new NoSuchElementException("no error position was set");
        }
        return lastErrorPosition;
    }

    public int failedCommand() throws NoSuchElementException {
        if (lastFailedCommand == NONE) {
            throw new NoSuchElementException("no command has failed");
        }
        return lastFailedCommand;
    }

    public int failedException() throws NoSuchElementException {
        if (lastFailedException == NONE) {
            throw new NoSuchElementException("no command has failed");
        }
        return lastFailedException;
    }

    // ---- line, statistics, undo, snapshot

    public int describeCue(int cue) throws NoSuchElementException {
        int slot = pendingSlot(cue);
        CueTree cues = sheet.cues;
        line.setLength(0);
        line.append('#').append(cue).append(cues.kinds[slot]);
        if (cues.kinds[slot] != HUSH) {
            line.append(cues.players[slot]);
        }
        line.append('@').append(cues.beats[slot]).append('=').append(cues.sizes[slot]);
        return line.length();
    }

    public int describePerformer(int performer) throws IndexOutOfBoundsException {
        if (!sheet.hasPerformer(performer)) {
            throw new IndexOutOfBoundsException("no such performer");
        }
        line.setLength(0);
        line.append(performer).append(sheet.isOpen(performer) ? 'o' : '-');
        if (sheet.owed[performer] > 0) {
            line.append('!').append(sheet.owed[performer]);
        }
        return line.length();
    }

    public char lineAt(int index) throws IndexOutOfBoundsException {
        if (index < 0 || index >= line.length()) {
            throw new IndexOutOfBoundsException("no such index");
        }
        return line.charAt(index);
    }

    public double meanFines() throws ArithmeticException {
        if (sheet.performers == 0) {
            throw new ArithmeticException("there are no performers");
        }
        return (double) sheet.owedTotal() / (double) sheet.performers;
    }

    public float hushedShare() throws ArithmeticException {
        if (sheet.beat == 0) {
            throw new ArithmeticException("no beat has passed");
        }
        return (float) sheet.hushedBeats / (float) sheet.beat;
    }

    public boolean isConsistent() {
        int nextBeat = sheet.beat + 1;
        return sheet.imposed == sheet.paid + sheet.owedTotal()
                && sheet.cues.conflicts() == sheet.cues.conflictsPassed()
                && forecastsAgree(0)
                && forecastsAgree(SHORT_LOOK)
                && forecastsAgree(MAX_ADVANCE)
                && sheet.cues.firstFrom(nextBeat) == sheet.cues.firstFromScanned(nextBeat);
    }

    private boolean forecastsAgree(int beats) {
        passOnTrial(beats);
        for (int performer = 0; performer < MAX_PERFORMERS; performer++) {
            int imposed = trial.owed[performer] - sheet.owed[performer];
            if (sheet.hasPerformer(performer) && imposed != sheet.foreseen(performer, beats)) {
                return false;
            }
        }
        return true;
    }

    public int undo() throws IllegalStateException {
        if (history.count == 0) {
            throw new IllegalStateException("there is no change to undo");
        }
        history.takeBack(sheet);
        return history.count;
    }

    public int save() {
        snapshot.copyFrom(sheet);
        hasSnapshot = true;
        return sheet.cues.count;
    }

    public int restore() throws IllegalStateException {
        if (!hasSnapshot) {
            throw new IllegalStateException("there is no snapshot");
        }
        sheet.copyFrom(snapshot);
        history.forget();
        return sheet.cues.count;
    }

    /** Everything that a change can change; undo, snapshot and trial are copies of one of these. */
    private static final class Sheet {
        final CueTree cues = new CueTree();
        final int[] owed = new int[MAX_PERFORMERS];
        /** The last beat of each mouth that is open, and NONE for one that is closed. */
        final int[] mouthEnds = new int[MAX_PERFORMERS];
        int performers = 0;
        int nextId = 0;
        int beat = 0;
        int actNumber = 0;
        int limit = FIRST_LIMIT;
        /** The last beat of the hush that has begun; before the current beat when there is none. */
        int hushEnd = NONE;
        int hushedBeats = 0;
        int happened = 0;
        int clashes = 0;
        int imposed = 0;
        int paid = 0;

        Sheet() {
            Arrays.fill(mouthEnds, NONE);
        }

        void copyFrom(Sheet other) {
            cues.copyFrom(other.cues);
            System.arraycopy(other.owed, 0, owed, 0, MAX_PERFORMERS);
            System.arraycopy(other.mouthEnds, 0, mouthEnds, 0, MAX_PERFORMERS);
            performers = other.performers;
            nextId = other.nextId;
            beat = other.beat;
            actNumber = other.actNumber;
            limit = other.limit;
            hushEnd = other.hushEnd;
            hushedBeats = other.hushedBeats;
            happened = other.happened;
            clashes = other.clashes;
            imposed = other.imposed;
            paid = other.paid;
        }

        boolean hasPerformer(int performer) {
            return performer >= 0 && performer < performers && performer < MAX_PERFORMERS;
        }

        boolean isOpen(int performer) {
            return hasPerformer(performer) && mouthEnds[performer] != NONE;
        }

        boolean isCueBeat(int candidate) {
            return candidate > beat && candidate <= LAST_CUE_BEAT;
        }

        static boolean isSize(int size) {
            return size >= 1 && size <= MAX_SIZE;
        }

        int owedTotal() {
            int total = 0;
            for (int performer = 0; performer < MAX_PERFORMERS; performer++) {
                total += owed[performer];
            }
            return total;
        }

        /** The performer at a rank, or NONE. */
        int ranked(int rank) {
            for (int performer = 0; performer < MAX_PERFORMERS; performer++) {
                if (hasPerformer(performer) && rankOf(performer) == rank) {
                    return performer;
                }
            }
            return NONE;
        }

        private int rankOf(int performer) {
            int rank = 0;
            for (int other = 0; other < MAX_PERFORMERS; other++) {
                if (hasPerformer(other) && comesBefore(other, performer)) {
                    rank++;
                }
            }
            return rank;
        }

        private boolean comesBefore(int one, int other) {
            if (owed[one] != owed[other]) {
                return owed[one] > owed[other];
            }
            int surplus = cues.countOf(one) - cues.countOf(other);
            return surplus != 0 ? surplus > 0 : one < other;
        }

        int join() {
            if (performers >= MAX_PERFORMERS) {
                return FIRST_FAULT;
            }
            performers++;
            return performers - 1;
        }

        int pay(int performer, int coins) {
            if (!hasPerformer(performer)) {
                return FIRST_FAULT;
            }
            if (coins < 1 || coins > MAX_COINS) {
                return SECOND_FAULT;
            }
            if (coins > owed[performer]) {
                return THIRD_FAULT;
            }
            owed[performer] -= coins;
            paid += coins;
            return owed[performer];
        }

        int hiss(int performer, int loudness) {
            if (!hasPerformer(performer)) {
                return FIRST_FAULT;
            }
            if (loudness < 1 || loudness > MAX_WHISPER) {
                return SECOND_FAULT;
            }
            int fine = isSilent(beat) ? 2 * loudness : 0;
            impose(performer, fine);
            return fine;
        }

        private void impose(int performer, int fine) {
            if (hasPerformer(performer)) {
                owed[performer] += fine;
                imposed += fine;
            }
        }

        int putPlayed(char kind, int performer, int cueBeat, int size) {
            if (!hasPerformer(performer)) {
                return FIRST_FAULT;
            }
            if (!isCueBeat(cueBeat) || !isSize(size)) {
                return SECOND_FAULT;
            }
            if (cues.isFull()) {
                return THIRD_FAULT;
            }
            return putCue(kind, performer, cueBeat, size);
        }

        int putHush(int cueBeat, int length) {
            if (!isCueBeat(cueBeat) || !isSize(length)) {
                return FIRST_FAULT;
            }
            if (cues.isFull()) {
                return SECOND_FAULT;
            }
            return putCue(HUSH, NONE, cueBeat, length);
        }

        private int putCue(char kind, int performer, int cueBeat, int size) {
            int id = nextId;
            cues.put(id, kind, performer, cueBeat, size);
            nextId++;
            return id;
        }

        int cancel(int cue) {
            int slot = cues.slotOf(cue);
            if (!CueTree.isSlot(slot)) {
                return FIRST_FAULT;
            }
            cues.drop(slot);
            return cues.count;
        }

        int move(int cue, int cueBeat) {
            int slot = cues.slotOf(cue);
            if (!CueTree.isSlot(slot)) {
                return FIRST_FAULT;
            }
            if (!isCueBeat(cueBeat)) {
                return SECOND_FAULT;
            }
            int previous = cues.beats[slot];
            cues.shift(slot, cueBeat);
            return previous;
        }

        int limitNoise(int newLimit) {
            if (newLimit < 0 || newLimit > MAX_LIMIT) {
                return FIRST_FAULT;
            }
            int previous = limit;
            limit = newLimit;
            return previous;
        }

        int openAct() {
            if (actNumber >= LAST_ACT) {
                return FIRST_FAULT;
            }
            actNumber++;
            hushEnd = NONE;
            Arrays.fill(mouthEnds, NONE);
            return actNumber;
        }

        int pass(int beats) {
            if (beats < 1 || beats > MAX_ADVANCE) {
                return FIRST_FAULT;
            }
            int before = happened;
            for (int passed = 0; passed < beats; passed++) {
                passBeat();
            }
            return happened - before;
        }

        private void passBeat() {
            beat++;
            closeMouths();
            int due = cues.listThrough(beat);
            beginHushes(due);
            openMouths(due);
            dropProps(due);
            for (int index = 0; index < due && index < MAX_CUES; index++) {
                cues.drop(cues.order[index]);
            }
            happened += due;
            if (beat <= hushEnd) {
                hushedBeats++;
            }
        }

        private void closeMouths() {
            for (int performer = 0; performer < MAX_PERFORMERS; performer++) {
                if (mouthEnds[performer] < beat) {
                    mouthEnds[performer] = NONE;
                }
            }
        }

        private void beginHushes(int due) {
            for (int index = 0; index < due && index < MAX_CUES; index++) {
                int slot = cues.order[index];
                if (cues.isKind(slot, HUSH)) {
                    hushEnd = Math.max(hushEnd, cues.lastBeat(slot));
                }
            }
        }

        private void openMouths(int due) {
            for (int index = 0; index < due && index < MAX_CUES; index++) {
                int slot = cues.order[index];
                if (cues.isKind(slot, MOUTH)) {
                    openMouth(cues.players[slot], cues.lastBeat(slot));
                }
            }
        }

        private void openMouth(int performer, int lastBeat) {
            if (!hasPerformer(performer)) {
                return;
            }
            if (mouthEnds[performer] != NONE) {
                clashes++;
            }
            mouthEnds[performer] = Math.max(mouthEnds[performer], lastBeat);
        }

        private void dropProps(int due) {
            if (!isTooLoud(cues.noiseOn(beat), beat <= hushEnd)) {
                return;
            }
            for (int index = 0; index < due && index < MAX_CUES; index++) {
                int slot = cues.order[index];
                if (cues.isKind(slot, PROP)) {
                    impose(cues.players[slot], cues.sizes[slot]);
                }
            }
        }

        private boolean isTooLoud(int noise, boolean hushed) {
            return noise > (hushed ? 0 : limit);
        }

        boolean isSilent(int candidate) {
            return candidate >= beat && (candidate <= hushEnd || cues.isHushDue(candidate));
        }

        /** The fines of the next beats for a performer, told from the cues without a copy. */
        int foreseen(int performer, int beats) {
            int lastBeat = beat + beats;
            int coins = 0;
            for (int slot = 0; slot < MAX_CUES; slot++) {
                int at = cues.beats[slot];
                if (cues.kinds[slot] == PROP && cues.players[slot] == performer && at <= lastBeat
                        && isTooLoud(cues.noiseOn(at), isSilent(at))) {
                    coins += cues.sizes[slot];
                }
            }
            return coins;
        }
    }

    /**
     * The pending cues in a tree sorted by beat, then id. A cue stands in a slot of the rows, and
     * the links are slots, so that a copy of the tree is a copy of its rows. The tree is not
     * balanced: with 16 cues no path is longer than 16.
     */
    private static final class CueTree {
        final int[] ids = new int[MAX_CUES];
        final char[] kinds = new char[MAX_CUES];
        final int[] players = new int[MAX_CUES];
        final int[] beats = new int[MAX_CUES];
        final int[] sizes = new int[MAX_CUES];
        final int[] lower = new int[MAX_CUES];
        final int[] higher = new int[MAX_CUES];
        /** A row to work with, filled by listThrough(); it is no part of the state. */
        final int[] order = new int[MAX_CUES];
        int root = NONE;
        int count = 0;

        CueTree() {
            Arrays.fill(lower, NONE);
            Arrays.fill(higher, NONE);
        }

        static boolean isSlot(int slot) {
            return slot >= 0 && slot < MAX_CUES;
        }

        void copyFrom(CueTree other) {
            System.arraycopy(other.ids, 0, ids, 0, MAX_CUES);
            System.arraycopy(other.kinds, 0, kinds, 0, MAX_CUES);
            System.arraycopy(other.players, 0, players, 0, MAX_CUES);
            System.arraycopy(other.beats, 0, beats, 0, MAX_CUES);
            System.arraycopy(other.sizes, 0, sizes, 0, MAX_CUES);
            System.arraycopy(other.lower, 0, lower, 0, MAX_CUES);
            System.arraycopy(other.higher, 0, higher, 0, MAX_CUES);
            root = other.root;
            count = other.count;
        }

        boolean isFull() {
            return count >= MAX_CUES;
        }

        /** The slot of the pending cue with an id, or NONE. */
        int slotOf(int id) {
            for (int slot = 0; slot < MAX_CUES; slot++) {
                if (kinds[slot] != FREE && ids[slot] == id) {
                    return slot;
                }
            }
            return NONE;
        }

        private int freeSlot() {
            for (int slot = 0; slot < MAX_CUES; slot++) {
                if (kinds[slot] == FREE) {
                    return slot;
                }
            }
            return NONE;
        }

        void put(int id, char kind, int player, int beat, int size) {
            int slot = freeSlot();
            if (!isSlot(slot)) {
                return;
            }
            ids[slot] = id;
            kinds[slot] = kind;
            players[slot] = player;
            beats[slot] = beat;
            sizes[slot] = size;
            link(slot);
            count++;
        }

        void drop(int slot) {
            if (!isSlot(slot) || kinds[slot] == FREE) {
                return;
            }
            unlink(slot);
            kinds[slot] = FREE;
            count--;
        }

        void shift(int slot, int beat) {
            if (!isSlot(slot)) {
                return;
            }
            unlink(slot);
            beats[slot] = beat;
            link(slot);
        }

        private void link(int slot) {
            if (!isSlot(root)) {
                root = slot;
                return;
            }
            int node = root;
            for (int step = 0; step < MAX_CUES && isSlot(node); step++) {
                boolean goesLower = !isBefore(node, beats[slot], ids[slot]);
                int next = goesLower ? lower[node] : higher[node];
                if (next == NONE && goesLower) {
                    lower[node] = slot;
                } else if (next == NONE) {
                    higher[node] = slot;
                }
                node = next;
            }
        }

        private void unlink(int slot) {
            int heir = joined(lower[slot], higher[slot]);
            if (root == slot) {
                root = heir;
            }
            for (int node = 0; node < MAX_CUES; node++) {
                if (lower[node] == slot) {
                    lower[node] = heir;
                }
                if (higher[node] == slot) {
                    higher[node] = heir;
                }
            }
            lower[slot] = NONE;
            higher[slot] = NONE;
        }

        /** One tree of two, all of whose first comes before all of the second. */
        private int joined(int first, int second) {
            int last = NONE;
            int node = first;
            for (int step = 0; step < MAX_CUES && node >= 0 && node < MAX_CUES; step++) {
                last = node;
                node = higher[node];
            }
            if (last == NONE) {
                return second;
            }
            higher[last] = second;
            return first;
        }

        private boolean isBefore(int slot, int beat, int id) {
            return beats[slot] < beat || beats[slot] == beat && ids[slot] < id;
        }

        /** The first cue, in cue order, that does not come before a beat and an id. */
        private int firstNotBefore(int beat, int id) {
            int found = NONE;
            int node = root;
            for (int step = 0; step < MAX_CUES && isSlot(node); step++) {
                if (isBefore(node, beat, id)) {
                    node = higher[node];
                } else {
                    found = node;
                    node = lower[node];
                }
            }
            return found;
        }

        int firstFrom(int beat) {
            return firstNotBefore(beat, 0);
        }

        int firstFromScanned(int beat) {
            int found = NONE;
            for (int slot = 0; slot < MAX_CUES; slot++) {
                boolean counts = kinds[slot] != FREE && beats[slot] >= beat;
                if (counts && (found == NONE || isBefore(slot, beats[found], ids[found]))) {
                    found = slot;
                }
            }
            return found;
        }

        /** Lists the cues up to a beat in the order row, and answers their number. */
        int listThrough(int lastBeat) {
            int listed = 0;
            int slot = firstNotBefore(0, 0);
            while (listed < MAX_CUES && isSlot(slot) && beats[slot] <= lastBeat) {
                order[listed] = slot;
                listed++;
                slot = firstNotBefore(beats[slot], ids[slot] + 1);
            }
            return listed;
        }

        /** The slot of the cue at a rank of the cue order, or NONE. */
        int slotAt(int rank) {
            int listed = listThrough(LAST_CUE_BEAT);
            return rank >= 0 && rank < listed && rank < MAX_CUES ? order[rank] : NONE;
        }

        boolean isKind(int slot, char kind) {
            return isSlot(slot) && kinds[slot] == kind;
        }

        int lastBeat(int slot) {
            return beats[slot] + sizes[slot] - 1;
        }

        int countOf(int player) {
            int found = 0;
            for (int slot = 0; slot < MAX_CUES; slot++) {
                if (kinds[slot] != FREE && players[slot] == player) {
                    found++;
                }
            }
            return found;
        }

        int noiseOn(int beat) {
            int noise = 0;
            for (int slot = 0; slot < MAX_CUES; slot++) {
                if (kinds[slot] == PROP && beats[slot] == beat) {
                    noise += sizes[slot];
                }
            }
            return noise;
        }

        /** The earliest beat of the greatest noise, or NONE without props. */
        int loudest() {
            int loudestSoFar = NONE;
            int greatest = 0;
            for (int slot = 0; slot < MAX_CUES; slot++) {
                int noise = kinds[slot] == PROP ? noiseOn(beats[slot]) : 0;
                boolean isEarlier = beats[slot] < loudestSoFar;
                if (noise > greatest || noise > 0 && noise == greatest && isEarlier) {
                    greatest = noise;
                    loudestSoFar = beats[slot];
                }
            }
            return loudestSoFar;
        }

        boolean isHushDue(int beat) {
            for (int slot = 0; slot < MAX_CUES; slot++) {
                if (kinds[slot] == HUSH && beats[slot] <= beat && beat <= lastBeat(slot)) {
                    return true;
                }
            }
            return false;
        }

        int conflicts() {
            int pairs = 0;
            for (int one = 0; one < MAX_CUES; one++) {
                for (int other = one + 1; other < MAX_CUES; other++) {
                    if (isMouthPair(one, other) && beats[one] <= lastBeat(other)
                            && beats[other] <= lastBeat(one)) {
                        pairs++;
                    }
                }
            }
            return pairs;
        }

        private boolean isMouthPair(int one, int other) {
            return isKind(one, MOUTH) && isKind(other, MOUTH) && players[one] == players[other];
        }

        int conflictsPassed() {
            int pairs = 0;
            int listed = listThrough(LAST_CUE_BEAT);
            for (int index = 0; index < listed && index < MAX_CUES; index++) {
                pairs += openBefore(index);
            }
            return pairs;
        }

        /** How many earlier mouths of the same performer are still open at a place of the order. */
        private int openBefore(int index) {
            int open = 0;
            for (int earlier = 0; earlier < index; earlier++) {
                if (isMouthPair(order[earlier], order[index])
                        && lastBeat(order[earlier]) >= beats[order[index]]) {
                    open++;
                }
            }
            return open;
        }
    }

    /** The sheets before the latest changes, in a ring with a spare one for the next change. */
    private static final class History {
        private final Sheet[] sheets = new Sheet[MAX_UNDO + 1];
        private int spare = 0;
        int count = 0;

        History() {
            for (int index = 0; index <= MAX_UNDO; index++) {
                sheets[index] = new Sheet();
            }
        }

        /** Notes the sheet before a change, which is only undone later if keep() follows. */
        void prepare(Sheet sheet) {
            if (isPlace(spare)) {
                sheets[spare].copyFrom(sheet);
            }
        }

        void keep() {
            spare = spare < MAX_UNDO ? spare + 1 : 0;
            count = Math.min(count + 1, MAX_UNDO);
        }

        void rollBack(Sheet sheet) {
            if (isPlace(spare)) {
                sheet.copyFrom(sheets[spare]);
            }
        }

        private static boolean isPlace(int place) {
            return place >= 0 && place <= MAX_UNDO;
        }

        void takeBack(Sheet sheet) {
            spare = spare > 0 ? spare - 1 : MAX_UNDO;
            count--;
            rollBack(sheet);
        }

        void forget() {
            count = 0;
        }
    }

    /** The forms of a command: # is for a digit, * for a number, and all else for itself. */
    private enum Form {
        PERFORMER("performer"),
        PAY("pay # *"),
        WHISPER("whisper ##"),
        MOUTH_CUE("mouth # * #"),
        PROP_CUE("prop # * #"),
        HUSH_CUE("hush * #"),
        CANCEL("cancel *"),
        MOVE("move * *"),
        LIMIT("limit *"),
        ADVANCE("advance *"),
        ACT("act");

        final String shape;

        Form(String shape) {
            this.shape = shape;
        }
    }

    private static final class Command {
        final int[] numbers = new int[MAX_NUMBERS];
        Form form = Form.ACT;
        int numberCount = 0;

        void begin(Form newForm) {
            form = newForm;
            numberCount = 0;
        }

        void add(int number) {
            if (numberCount < MAX_NUMBERS) {
                numbers[numberCount] = number;
                numberCount++;
            }
        }
    }

    /** Holds the command text and reads its commands. */
    private static final class CommandReader {
        private static final Form[] FORMS = Form.values();
        private static final char DIGIT = '#';
        private static final char NUMBER = '*';
        private static final char SEPARATOR = ';';

        final StringBuilder text = new StringBuilder();
        final Command[] commands = new Command[MAX_COMMANDS];
        int count = 0;
        /** Where the reading stands; after a text that is refused, the error position. */
        int position = 0;

        CommandReader() {
            for (int index = 0; index < MAX_COMMANDS; index++) {
                commands[index] = new Command();
            }
        }

        /** Reads the text into commands, and answers whether it is a command text. */
        boolean readAll() {
            position = 0;
            for (int index = 0; index < MAX_COMMANDS; index++) {
                if (!readCommand(commands[index])) {
                    return false;
                }
                count = index + 1;
                if (position >= text.length()) {
                    return true;
                }
                if (!readSign(SEPARATOR)) {
                    return false;
                }
            }
            return false;
        }

        /**
         * Tries one form after the other. No form goes on where another one is complete, so the
         * first that fits is the only one; if none fits, the one that got furthest tells the error.
         */
        private boolean readCommand(Command command) {
            int start = position;
            int furthest = position;
            for (int index = 0; index < FORMS.length; index++) {
                position = start;
                if (readForm(FORMS[index], command)) {
                    return true;
                }
                furthest = Math.max(furthest, position);
            }
            position = furthest;
            return false;
        }

        private boolean readForm(Form form, Command command) {
            command.begin(form);
            for (int index = 0; index < form.shape.length(); index++) {
                if (!readPart(form.shape.charAt(index), command)) {
                    return false;
                }
            }
            return true;
        }

        private boolean readPart(char part, Command command) {
            if (part == DIGIT) {
                return readNumber(1, command);
            }
            if (part == NUMBER) {
                return readNumber(3, command);
            }
            return readSign(part);
        }

        private boolean readSign(char sign) {
            if (position >= text.length() || text.charAt(position) != sign) {
                return false;
            }
            position++;
            return true;
        }

        private boolean readNumber(int mostDigits, Command command) {
            int number = 0;
            int digits = 0;
            while (digits < mostDigits && isDigitNext()) {
                number = 10 * number + (text.charAt(position) - '0');
                position++;
                digits++;
            }
            command.add(number);
            return digits > 0;
        }

        private boolean isDigitNext() {
            return position < text.length() && text.charAt(position) >= '0'
                    && text.charAt(position) <= '9';
        }
    }
}
