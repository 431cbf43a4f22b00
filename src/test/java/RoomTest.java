import java.lang.management.ManagementFactory;

/** The room: an object is small, and its calls make no others, however many there are. */
public final class RoomTest {
    private static final Check C = new Check();
    private static final com.sun.management.ThreadMXBean ROOM =
        (com.sun.management.ThreadMXBean) ManagementFactory.getThreadMXBean();

    private static long used() {
        return ROOM.getThreadAllocatedBytes(Thread.currentThread().getId());
    }

    private static void dearCalls(LaterPrints x) {
        x.first(1);
        x.again();
        x.gone(0);
        x.cover(3, 12);
        x.share(60, 0);
        x.sees(0);
        x.stays(0, 200);
        x.period(0, 20);
        x.steps(0, 20, 4);
        x.between(0, 0, 1, 0, 12);
        x.mean(0, 20);
        x.mark();
        x.live(3);
        x.undo();
        x.copyWay(0, 0, 20);
        x.pour(0, 0, 0, 1, 19);
        x.told(13);
    }

    public static void main(String[] args) {
        String scene = "price 0 rises 0;scene 6 by 5;person a at 0 0 goes east south west north;person b at 2 0 goes west rest;"
            + "sight s of a with b;sight t empty;buyer p;buyer q;";
        String runs = "loop 99;any;any;give p q;end;";
        LaterPrints x = C.with(scene);
        Check.runs(x, runs);
        x.tray(0, 0, 60);
        dearCalls(x);
        long ahead = used();
        LaterPrints y = new LaterPrints();
        long made = used() - ahead;
        C.due("a new object of " + made + " bytes", made < 60000, true);
        y.status();
        dearCalls(x);
        ahead = used();
        for (int i = 0; i < 30; i++) {
            dearCalls(x);
        }
        long more = used() - ahead;
        C.due("510 dear calls made " + more + " bytes", more < 10000, true);
        C.end();
    }
}
