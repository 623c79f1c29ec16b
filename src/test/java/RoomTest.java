import com.sun.management.ThreadMXBean;
import java.lang.management.ManagementFactory;

/** All objects of one run of 512 calls live in one room, so a run makes few of them. */
public final class RoomTest {

    /** A tenth of the 7.3 million fields and elements of the room, if each were of four bytes. */
    private static final long MOST_BYTES = 7_300_000L / 10 * 4;

    public static void main(String[] args) {
        ThreadMXBean threads = (ThreadMXBean) ManagementFactory.getThreadMXBean();
        dearRun();
        long before = threads.getCurrentThreadAllocatedBytes();
        dearRun();
        long made = threads.getCurrentThreadAllocatedBytes() - before;
        Check.dueTrue("a dear run makes " + made + " bytes of objects", made < MOST_BYTES);

        DeltaNights house = new DeltaNights();
        house.bid(0, 1);
        house.would(0);
        before = threads.getCurrentThreadAllocatedBytes();
        for (int i = 0; i < 100; i++) {
            house.would(0);
            house.forBase(0);
        }
        made = threads.getCurrentThreadAllocatedBytes() - before;
        Check.dueTrue("asking makes no objects, but " + made + " bytes", made < 2_000);
        Check.close("RoomTest");
    }

    /** Four full files whose rows are new in each night, all of them served. */
    private static void dearRun() {
        DeltaNights house = new DeltaNights();
        house.setNight(500, 0);
        for (int client = 0; client < 4; client++) {
            house.put(client, 0, client);
            house.put(client, 1, client + 4);
            house.put(client, 2, client + 8);
            for (int i = 0; i < 4; i++) {
                house.copy(client, 0, house.length(client), client);
            }
            house.bid(client, 1);
        }
        for (int night = 0; night < 60; night++) {
            for (int client = 0; client < 4; client++) {
                house.set(client, night * 7 % 48, night);
            }
            house.setMarks(night % 3, 1 + night % 2, 2 + night % 5);
            if (house.night() != 4) {
                Check.dueTrue("all are served in night " + night, false);
            }
        }
    }
}
