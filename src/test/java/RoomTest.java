import java.lang.management.ManagementFactory;

/** All calls of a run live in one room that is never swept, so the dearest calls must make next to nothing. */
public final class RoomTest {
    /** Far below the room of some 7.3 million elements; 512 calls of a kind make this many bytes at most. */
    private static final long MOST_BYTES = 2_000_000;

    private RoomTest() {
    }

    public static void main(String[] args) {
        int wrong = 0;
        measure(0);
        for (int kind = 0; kind < 12; kind++) {
            long bytes = measure(kind);
            if (bytes > MOST_BYTES) {
                wrong++;
                System.out.println("RoomTest: kind " + kind + " makes " + bytes + " bytes");
            }
        }
        System.out.println("RoomTest: " + wrong + " wrong");
        System.exit(wrong == 0 ? 0 : 1);
    }

    private static long measure(int kind) {
        com.sun.management.ThreadMXBean threads = (com.sun.management.ThreadMXBean) ManagementFactory.getThreadMXBean();
        long id = Thread.currentThread().getId();
        LatestCoat x = Due.on("street 9 20 0;thing 6 20;thing 6 20;thing 4 20;painter 1 99;painter 2 99;painter 3 99;painter 4 99;rain 3 9");
        for (int k = 0; k < 6; k++) {
            Due.rule(x, "paint 9-coats*painter+rent if " + "not [wet=1 and mine<3 or owner=painter] and ".repeat(4) + "hour>=" + k);
        }
        for (int k = 0; k < 90; k++) {
            x.paint(k % 16, k * 7 % 4);
        }
        x.force(5);
        long before = threads.getThreadAllocatedBytes(id);
        for (int k = 0; k < 512; k++) {
            one(x, kind);
        }
        return threads.getThreadAllocatedBytes(id) - before;
    }

    private static void one(LatestCoat x, int kind) {
        switch (kind) {
            case 0: x.look(99, 0); break;
            case 1: x.ruled(0); break;
            case 2: x.years(10, 100, 0); break;
            case 3: x.game(0, 1, 0, 4, 0); break;
            case 4: x.fewest(0, 0, 0); break;
            case 5: x.worth(0, 0, 100); break;
            case 6: x.least(0, 0, 60, 0); break;
            case 7: x.one(); break;
            case 8: x.hour(); break;
            case 9: x.image(0); x.back(0); break;
            case 10: x.paint(0, 0); x.undo(); break;
            default: x.feed(0x73747265, 0x65742031, 0x20312030, 0x20202020, 0x20202020); x.street(); break;
        }
    }
}
