import java.lang.management.ManagementFactory;

/** All calls of a run live in one room: a new object is small, and no call makes anything. */
public final class RoomTest {
    private static final com.sun.management.ThreadMXBean THREADS =
            (com.sun.management.ThreadMXBean) ManagementFactory.getThreadMXBean();
    private static final long MOST_OF_AN_OBJECT = 200_000;
    private static final long MOST_OF_ALL_CALLS = 1_000;

    public static void main(String[] args) {
        run(new DayTown());
        allocated();
        long ahead = allocated();
        DayTown town = new DayTown();
        long made = allocated();
        run(town);
        long end = allocated();
        System.out.println("RoomTest: " + (made - ahead) + " bytes an object, "
                + (end - made) + " bytes by its calls");
        if (made - ahead > MOST_OF_AN_OBJECT || end - made > MOST_OF_ALL_CALLS) {
            System.out.println("RoomTest: more than there is room for");
            System.exit(1);
        }
    }

    private static long allocated() {
        return THREADS.getCurrentThreadAllocatedBytes();
    }

    private static void run(DayTown town) {
        for (int i = 0; i < 8; i++) {
            town.person(i);
        }
        // "grows age * owes + 1;" and "grows "
        town.feed(0x67726F77, 0x73206167, 0x652A6F77, 0x65732B31, 0x3B202020);
        town.read();
        town.feed(0x67726F77, 0x73202020, 0x20202020, 0x20202020, 0x20202020);
        town.read();
        town.place();
        for (int i = 0; i < 110; i++) {
            town.loan(i % 5, i % 8, i % 8, 20 + i, i * 3 % 8);
            town.pays(i % 7, i % 8, i % 8, 20 + i, i * 5 % 8);
        }
        town.forged(3);
        town.feast(30, true);
        town.seen(1, 2, 3, 30);
        town.meeting(4);
        for (int n = 0; n <= town.count(1); n += 20) {
            ask(town, n);
        }
    }

    private static void ask(DayTown town, int n) {
        town.isVoid(2, n);
        town.holder(1, 21, n);
        town.chain(1, 21, 1, n);
        town.awake(1, 21, n);
        town.age(1, 300, n);
        town.owes(1, 2, 300, n);
        town.net(1, 300, n);
        town.ring(300, n, 1);
        town.leaves(300, n);
        town.grows(1, n);
        town.ban(1, n);
        town.counts(118, n);
        town.doer(3, 30, n);
        town.turned(n, town.count(1));
    }
}
