import java.lang.management.ManagementFactory;

/** The dearest calls, 512 on each object, make no objects; and they come to an end soon. */
public final class RoomTest {
    private RoomTest() {
    }

    public static void main(String[] args) {
        com.sun.management.ThreadMXBean threads = (com.sun.management.ThreadMXBean) ManagementFactory.getThreadMXBean();
        long sum = 0;
        long made = 0;
        // The first rounds load classes, which is not the work of the calls.
        for (int round = 0; round < 3; round++) {
            PieceSurfaces x = full();
            long before = threads.getCurrentThreadAllocatedBytes();
            for (int i = 0; i < 430; i++) {
                sum += dear(x, i);
            }
            made = threads.getCurrentThreadAllocatedBytes() - before;
        }
        System.out.println("RoomTest: " + made + " bytes made by 430 calls, sum of answers " + sum);
        if (made > 4096) {
            System.exit(1);
        }
    }

    private static int dear(PieceSurfaces x, int i) {
        switch (i % 8) {
            case 0: return x.surface(0, 7);
            case 1: return x.surface(1, 8);
            case 2: return x.told(6);
            case 3: return x.told(10);
            case 4: return x.add(2, 2);
            case 5: return x.undo(1);
            case 6: return x.drift(12);
            default: return x.undo(12);
        }
    }

    /** Three tetrahedra, all glued, and surfaces with many pieces. */
    private static PieceSurfaces full() {
        PieceSurfaces x = new PieceSurfaces();
        x.bodies(3);
        x.glue(0, 0, 0, 1, 0);
        x.glue(0, 2, 1, 2, 0);
        x.glue(0, 3, 1, 3, 0);
        x.glue(1, 0, 2, 0, 0);
        x.glue(1, 1, 2, 1, 0);
        x.glue(2, 2, 2, 3, 0);
        x.put();
        x.put();
        x.put();
        for (int b = 0; b < 3; b++) {
            for (int v = 0; v < 4; v++) {
                x.piece(0, b, v, 20);
                x.piece(1, b, v, 1);
                x.piece(2, b, v, 10);
            }
        }
        for (int i = 0; i < 20; i++) {
            x.write(0, x.surface(0, 3) - 1000);
        }
        return x;
    }
}
