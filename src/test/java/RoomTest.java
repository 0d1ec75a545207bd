import java.lang.management.ManagementFactory;

/** All calls of a run live in one room: a new object is small, and calls make nothing. */
public final class RoomTest {
    private static final int BYTES_OF_AN_OBJECT = 24_000;
    private static final int BYTES_OF_ALL_CALLS = 20_000;

    public static void main(String[] args) {
        Check check = new Check();
        use(new ThreeOffers());
        long before = used();
        ThreeOffers x = new ThreeOffers();
        long made = used() - before;
        check.holds("a new object takes " + made + " bytes", made < BYTES_OF_AN_OBJECT);
        before = used();
        use(x);
        long calls = used() - before;
        check.holds("calls take " + calls + " bytes", calls < BYTES_OF_ALL_CALLS);
        check.end();
    }

    private static long used() {
        var threads = (com.sun.management.ThreadMXBean) ManagementFactory.getThreadMXBean();
        return threads.getCurrentThreadAllocatedBytes();
    }

    /** The dearest calls again and again, each after a change, so that nothing found before is told. */
    private static void use(ThreeOffers x) {
        for (int sort = 0; sort < 4; sort++) {
            for (int kind = 0; kind < 4; kind++) x.worth(sort, kind, sort == kind ? 0 : 5 + kind);
            x.joining(sort);
            x.coming(sort);
            x.holder(sort, sort);
            x.holder(sort, sort);
            x.join(sort);
            x.join(sort);
        }
        for (int i = 0; i < 40; i++) {
            x.need(0, 1 + i % 9);
            x.rest(40, -1);
            x.best(60, 0);
            x.would(60, 0);
            x.lot(0, 27, 4, -1, 0);
            x.chain(0, -1);
            x.swaps(0);
            x.mean(1, 9, 6, 0);
            x.write(0x332073656f6eL, 6);
            x.fault();
            x.rules();
        }
    }
}
