import com.sun.management.ThreadMXBean;
import java.lang.management.ManagementFactory;

/** All calls of one run live in one room, so the dearest calls must make next to nothing. */
public final class RoomTest {
    private static final int TIMES = 10;
    private static final long BYTES_PER_OBJECT = 16_000;
    private static final long BYTES_PER_CALL = 100;

    private static final Check check = new Check();
    private static final ThreadMXBean threads = (ThreadMXBean) ManagementFactory.getThreadMXBean();

    private interface Action {
        void go(SilentOpera opera);
    }

    public static void main(String[] args) {
        bounded("a new object", BYTES_PER_OBJECT, opera -> new SilentOpera());
        bounded("isConsistent", BYTES_PER_CALL, SilentOpera::isConsistent);
        bounded("finesAfter", BYTES_PER_CALL, opera -> opera.finesAfter(0, 40));
        bounded("conflictCountByPass", BYTES_PER_CALL, SilentOpera::conflictCountByPass);
        bounded("setLimit", BYTES_PER_CALL, opera -> opera.setLimit(3));
        bounded("advance and undo", BYTES_PER_CALL, opera -> {
            opera.advance(40);
            opera.undo();
        });
        bounded("save and restore", BYTES_PER_CALL, opera -> {
            opera.save();
            opera.restore();
        });
        bounded("run", BYTES_PER_CALL, opera -> {
            Stage.type(opera, "act;limit 3;mouth 0 99 9;cancel 15").run();
            opera.undo();
        });
        bounded("describeCue", BYTES_PER_CALL, opera -> opera.describeCue(9));
        check.end();
    }

    private static SilentOpera fullStage() {
        SilentOpera opera = Stage.with(6);
        for (int cue = 0; cue < 15; cue++) {
            opera.cueProp(cue % 6, 1 + cue, 9);
        }
        return opera;
    }

    private static void bounded(String what, long most, Action action) {
        bytesOf(action);
        long bytes = bytesOf(action) / TIMES;
        check.isTrue(what + " makes " + bytes + " bytes, at most " + most, bytes <= most);
    }

    private static long bytesOf(Action action) {
        SilentOpera opera = fullStage();
        long before = threads.getCurrentThreadAllocatedBytes();
        for (int time = 0; time < TIMES; time++) {
            action.go(opera);
        }
        return threads.getCurrentThreadAllocatedBytes() - before;
    }
}
