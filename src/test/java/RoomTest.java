import java.lang.management.ManagementFactory;

/** The room that a run takes: a new object and its 512 calls, for each call that looks dear. */
public final class RoomTest {
    private static final Check CHECK = new Check("RoomTest");
    private static final long MOST_BYTES = 1_000_000;
    private static final String[] CALLS =
        {"view", "thing, undo", "image", "look", "aim", "order", "odds", "done", "act"};

    private static int kept;

    public static void main(String[] args) {
        for (int which = 0; which < CALLS.length; which++) {
            run(which);
            long ahead = bytes();
            run(which);
            long took = bytes() - ahead;
            CHECK.holds("512 calls of " + CALLS[which] + " take " + took + " bytes", took < MOST_BYTES);
        }
        CHECK.end();
    }

    private static long bytes() {
        com.sun.management.ThreadMXBean threads =
            (com.sun.management.ThreadMXBean) ManagementFactory.getThreadMXBean();
        return threads.getCurrentThreadAllocatedBytes();
    }

    private static void run(int which) {
        CoinTelescope x = Check.withView("dear 9 t>2&!(k=1|c=5);dull 3 v>4;haze 1");
        for (int kind = 1; kind <= 5; kind++) {
            x.thing(kind, kind, 20 - kind);
        }
        x.plan(1);
        x.image();
        for (int i = 0; i < 512; i++) {
            switch (which) {
                case 0: x.view(); break;
                case 1: x.thing(6, 1, 1); x.undo(); break;
                case 2: x.image(); break;
                case 3: x.look(4, -1); break;
                case 4: x.aim(2, 0); break;
                case 5: x.order(-1); break;
                case 6: x.odds(3, 4, 0); break;
                case 7: x.done(0); break;
                default: x.act(3, 2, i);
            }
        }
        kept += x.told(0);
    }
}
