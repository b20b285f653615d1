import java.lang.management.ManagementFactory;

/** What a run makes: all calls of an object live in one room, so only what must make objects does. */
public final class RoomTest {
    private static final Check check = new Check("RoomTest");

    // A first object is far below what one run's room holds; 512 calls then add nothing to it.
    private static final long MOST_OF_OBJECT = 400_000;
    private static final long MOST_OF_CALLS = 20_000;

    public static void main(String[] args) {
        com.sun.management.ThreadMXBean beans =
            (com.sun.management.ThreadMXBean) ManagementFactory.getThreadMXBean();
        if (!beans.isThreadAllocatedMemorySupported()) {
            check.isTrue("this machine does not count what is made", true);
            check.end();
            return;
        }
        use(build(), 40);
        long id = Thread.currentThread().getId();
        long before = beans.getThreadAllocatedBytes(id);
        RunLaws x = build();
        long built = beans.getThreadAllocatedBytes(id);
        use(x, 460);
        long used = beans.getThreadAllocatedBytes(id);
        check.isTrue("an object with all points and acts takes " + (built - before) + " bytes",
            built - before < MOST_OF_OBJECT);
        check.isTrue("its other calls make " + (used - built) + " bytes", used - built < MOST_OF_CALLS);
        check.end();
    }

    private static RunLaws build() {
        RunLaws x = new RunLaws();
        for (int p = 0; p < 6; p++) {
            x.point(4);
        }
        for (int a = 0; a < 10; a++) {
            x.act(0, 0);
            for (int v = 0; v < 4; v++) {
                x.makes(a, v, v == 0 ? 1 : 0, v == 1 ? 1 : 0, v == 2 ? 1 : 0, v == 3 ? 1 : 0, (a + v) % 5 - 2);
            }
        }
        x.start(0, 0, 1, 2, 3);
        return x;
    }

    private static void use(RunLaws x, int calls) {
        for (int call = 0; call < calls; call++) {
            int n = call * 7919;
            switch (call % 12) {
                case 0: x.read(n % 6, n % 31, n % 13, n % 29, n % 11); break;
                case 1: x.run(n, n % 4); break;
                case 2: x.split(n % 6, n % 4, n % 31 - 15); break;
                case 3: x.guesses(n % 6, n % 3); break;
                case 4: x.guess(n % 6, n % 3, n % 9); break;
                case 5: x.sums(n % 6, n % 3); break;
                case 6: x.sum(n % 6, n % 3, n % 3, n % 5); break;
                case 7: x.kept(); break;
                case 8: x.search(n % 6); break;
                case 9: x.broke(n % 14); break;
                case 10: x.number(n % 6, n % 3, n % 5, n % 4, n % 5); break;
                default: x.holds(n % 6, n % 3, n % 10, n % 4, n % 3); break;
            }
        }
    }
}
