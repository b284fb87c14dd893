import java.util.Random;

/** Runs of mixed calls, right and wrong ones, 512 on each object, each answered by the class and by the model. */
public final class RandomRunsTest {
    private static final int[] ODD = {-1, -2, 21, 100, Integer.MIN_VALUE, Integer.MAX_VALUE, PieceSurfaces.UNKNOWN};

    private final Random random;
    private final Pair pair = new Pair();

    private RandomRunsTest(long seed) {
        random = new Random(seed);
    }

    public static void main(String[] args) {
        for (int run = 0; run < 600; run++) {
            new RandomRunsTest(run).run();
        }
        Pair.end("RandomRunsTest");
    }

    private void run() {
        int style = random.nextInt(4);
        pair.call("seed", random.nextInt(Integer.MAX_VALUE));
        pair.call("bodies", 1 + random.nextInt(3));
        while (pair.callsLeft() > 0) {
            if (random.nextInt(100) < 4) {
                wildCall();
            } else {
                plainCall(style);
            }
        }
    }

    /** Any method with arguments that are mostly near the edges of their ranges. */
    private void wildCall() {
        int m = random.nextInt(Pair.NAMES.length);
        int[] a = new int[Pair.ARGUMENTS[m]];
        for (int i = 0; i < a.length; i++) {
            a[i] = random.nextInt(8) == 0 ? ODD[random.nextInt(ODD.length)] : random.nextInt(14) - 1;
        }
        pair.call(Pair.NAMES[m], a);
    }

    private int body() {
        return random.nextInt(pair.model.told(0));
    }

    private int sheet() {
        return random.nextInt(Math.max(1, pair.model.told(7)));
    }

    private void plainCall(int style) {
        int dice = random.nextInt(100);
        if (dice < 40) {
            look();
        } else if (dice < 55) {
            pair.call("piece", sheet(), body(), random.nextInt(random.nextBoolean() ? 7 : 4), small(style));
        } else if (dice < 62) {
            pair.call("put");
        } else if (dice < 69) {
            pair.call("about", random.nextInt(Math.max(1, pair.model.told(2))));
        } else if (dice < 77) {
            pair.call("add", sheet(), sheet());
        } else if (dice < 81) {
            pair.call("take", sheet());
        } else if (dice < 85) {
            int s = sheet();
            pair.call("write", s, pair.model.surface(s, 3) - 1000 + random.nextInt(7) / 6);
        } else if (dice < 86) {
            pair.call("tear");
        } else if (dice < 90) {
            pair.call("undo", 1 + random.nextInt(random.nextInt(16) + 1));
        } else if (dice < 91) {
            pair.call(random.nextBoolean() ? "keep" : "goBack", random.nextInt(2));
        } else if (style == 3 || random.nextInt(3) == 0) {
            changeRooms();
        }
    }

    private int small(int style) {
        return style == 0 ? random.nextInt(22) - 1 : random.nextInt(4);
    }

    private void changeRooms() {
        int dice = random.nextInt(10);
        if (dice < 5) {
            pair.call("glue", body(), random.nextInt(4), body(), random.nextInt(4), random.nextInt(6));
        } else if (dice < 8) {
            pair.call("drift", 1 + random.nextInt(12));
        } else if (dice < 9) {
            pair.call("free", body(), random.nextInt(4));
        } else {
            pair.call("bodies", 1 + random.nextInt(3));
        }
    }

    private void look() {
        switch (random.nextInt(12)) {
            case 0: pair.call("wall", body(), random.nextInt(4), random.nextInt(3)); break;
            case 1: pair.call("corner", body(), random.nextInt(4), random.nextInt(5)); break;
            case 2: pair.call("edge", body(), random.nextInt(6), random.nextInt(3)); break;
            case 3: pair.call("pieces", sheet(), body(), random.nextInt(7)); break;
            case 4: pair.call("weight", sheet(), body(), random.nextInt(6)); break;
            case 5: pair.call("arcs", sheet(), body(), random.nextInt(4), random.nextInt(4)); break;
            case 6: case 7: case 8: pair.call("told", random.nextInt(12)); break;
            default: pair.call("surface", sheet(), random.nextInt(9)); break;
        }
    }
}
