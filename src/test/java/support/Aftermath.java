import java.util.Map;
import java.util.TreeMap;

/**
 * All that later calls can tell of an object: its queries, its undo, its snapshot, its command text
 * and so on. Each way of telling changes the object, and so has one made for it.
 */
final class Aftermath {
    static final String REPORT = "the error position and the failure";
    private static final int UNDOS = 9;

    private Aftermath() {
    }

    static Map<String, String> of(Check.Setting setting) {
        Map<String, String> told = new TreeMap<>();
        for (int undos = 0; undos <= UNDOS; undos++) {
            told.put("with " + undos + " changes undone", undone(setting.make(), undos));
        }
        told.put("with the snapshot", restored(setting.make()));
        told.put("by the length of the text", Integer.toString(textLength(setting.make())));
        told.put("with the text carried out", carriedOut(setting.make()));
        told.put(REPORT, report(setting.make()));
        return told;
    }

    /** All that changes can change, but for what is kept for undo and as the snapshot. */
    static String state(SilentOpera opera) {
        return undone(opera, 0);
    }

    private static String undone(SilentOpera opera, int undos) {
        StringBuilder told = new StringBuilder();
        for (int undo = 0; undo < undos; undo++) {
            told.append(Check.outcome(opera::undo)).append(' ');
        }
        return told + Probe.of(opera) + hidden(opera);
    }

    private static String restored(SilentOpera opera) {
        Object restored = Check.outcome(opera::restore);
        String told = restored + " " + Probe.of(opera);
        return told + Check.outcome(opera::undo) + hidden(opera);
    }

    /** The limit and the next id, which no query answers. */
    private static String hidden(SilentOpera opera) {
        int limit = opera.setLimit(6);
        if (opera.cueCount() == 16) {
            opera.cancelCue(opera.cueAt(0));
        }
        return "limit " + limit + ", next id " + Check.outcome(() -> opera.cueHush(199, 1));
    }

    static int textLength(SilentOpera opera) {
        Object length = Check.outcome(() -> opera.append(' '));
        return length instanceof Integer ? (Integer) length - 1 : 60;
    }

    private static String carriedOut(SilentOpera opera) {
        Object outcome = Check.outcome(opera::run);
        String cause = "";
        if (outcome.equals("IllegalArgumentException")) {
            cause = " at " + opera.errorPosition();
        } else if (outcome.equals("IllegalStateException")) {
            cause = " by " + opera.failedCommand() + " " + opera.failedException();
        }
        return outcome + cause + " " + Probe.of(opera);
    }

    private static String report(SilentOpera opera) {
        return Check.outcome(opera::errorPosition) + " " + Check.outcome(opera::failedCommand) + " "
                + Check.outcome(opera::failedException);
    }
}
