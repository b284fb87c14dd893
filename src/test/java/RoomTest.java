import java.lang.management.ManagementFactory;

/** The dearest calls, up to 512 on each object, make no objects; they come to an end soon, and a new object is small. */
public final class RoomTest {
    /** The number of calls that fill() makes, and how many calls an object has left then. */
    private static final int PREPARING = 1 + 6 + 3 + 36 + 40, LEFT = Subject.LIMIT - PREPARING;
    /** Bytes of a new object, which are at most 16,384 elements: the room of a run holds 400 such objects. */
    private static final long MOST_OF_ONE = 64 * 1024;

    private RoomTest() {
    }

    public static void main(String[] args) {
        com.sun.management.ThreadMXBean threads = (com.sun.management.ThreadMXBean) ManagementFactory.getThreadMXBean();
        long sum = 0;
        long made = 0;
        long one = 0;
        // The first rounds load classes, which is not the work of the calls.
        for (int round = 0; round < 3; round++) {
            long first = threads.getCurrentThreadAllocatedBytes();
            PieceSurfaces x = new PieceSurfaces();
            one = threads.getCurrentThreadAllocatedBytes() - first;
            fill(x);
            long before = threads.getCurrentThreadAllocatedBytes();
            for (int i = 0; i < LEFT; i++) {
                sum += dear(x, i);
            }
            made = threads.getCurrentThreadAllocatedBytes() - before;
        }
        System.out.println("RoomTest: " + one + " bytes of one object, " + made + " bytes made by " + LEFT
            + " calls, sum of answers " + sum);
        if (made > 4096 || one > MOST_OF_ONE) {
            System.exit(1);
        }
    }

    private static int dear(PieceSurfaces x, int i) {
        switch (i % 8) {
            case 0: return x.surface(0, 7);
            case 1: return x.surface(1, 8);
            case 2: return x.told(6);
            case 3: return x.told(10);
            case 4: return x.add(2, 2);
            case 5: return x.undo(1);
            case 6: return x.drift(12);
            default: return x.undo(12);
        }
    }

    /** Three tetrahedra, all glued, and surfaces with many pieces. */
    private static void fill(PieceSurfaces x) {
        x.bodies(3);
        x.glue(0, 0, 0, 1, 0);
        x.glue(0, 2, 1, 2, 0);
        x.glue(0, 3, 1, 3, 0);
        x.glue(1, 0, 2, 0, 0);
        x.glue(1, 1, 2, 1, 0);
        x.glue(2, 2, 2, 3, 0);
        x.put();
        x.put();
        x.put();
        for (int b = 0; b < 3; b++) {
            for (int v = 0; v < 4; v++) {
                x.piece(0, b, v, 20);
                x.piece(1, b, v, 1);
                x.piece(2, b, v, 10);
            }
        }
        for (int i = 0; i < 20; i++) {
            x.write(0, x.surface(0, 3) - 1000);
        }
    }
}
