import java.util.ArrayList;
import java.util.List;
import java.util.Random;

/** All properties of many surfaces that match: in every gluing of one tetrahedron, and in some of two and three. */
public final class SurfacesTest {
    private static final int[][] PAIRINGS = {{0, 1, 2, 3}, {0, 2, 1, 3}, {0, 3, 1, 2}};
    private static final int[] types = new int[8];
    private static int cellsCounted;

    private SurfacesTest() {
    }

    public static void main(String[] args) {
        for (int[] p : PAIRINGS) {
            for (int one = 0; one < 6; one++) {
                lookAt(1, List.of(new int[] {0, p[0], 0, p[1], one}), 2);
                lookAt(1, List.of(new int[] {0, p[2], 0, p[3], one}), 2);
                for (int two = 0; two < 6; two++) {
                    lookAt(1, List.of(new int[] {0, p[0], 0, p[1], one}, new int[] {0, p[3], 0, p[2], two}), 3);
                }
            }
        }
        Random random = new Random(5);
        for (int i = 0; i < 60; i++) {
            lookAt(2, someGluings(random, 2), 1);
        }
        for (int i = 0; i < 6; i++) {
            lookAt(3, someGluings(random, 3), 1);
        }
        for (int type = 0; type < 7; type++) {
            if (types[type] == 0) {
                System.out.println("no surface of type " + type + " was met");
                Pair.wrong++;
            }
        }
        if (cellsCounted == 0) {
            System.out.println("no surface's cells were counted");
            Pair.wrong++;
        }
        Pair.end("SurfacesTest");
    }

    private static List<int[]> someGluings(Random random, int bodies) {
        List<Integer> faces = new ArrayList<>();
        for (int face = 0; face < 4 * bodies; face++) {
            faces.add(face);
        }
        java.util.Collections.shuffle(faces, random);
        int leave = random.nextInt(4) == 0 ? 2 : 0;
        List<int[]> gluings = new ArrayList<>();
        for (int i = 0; i + leave < faces.size(); i += 2) {
            gluings.add(new int[] {faces.get(i) / 4, faces.get(i) % 4, faces.get(i + 1) / 4, faces.get(i + 1) % 4,
                random.nextInt(6)});
        }
        return gluings;
    }

    private static Pair glued(int bodies, List<int[]> gluings) {
        Pair pair = new Pair();
        pair.call("bodies", bodies);
        for (int[] g : gluings) {
            pair.call("glue", g);
        }
        return pair;
    }

    private static void lookAt(int bodies, List<int[]> gluings, int most) {
        Pair pair = glued(bodies, gluings);
        pair.lookAtRooms();
        List<int[][]> found = new ArrayList<>();
        search(pair, new int[bodies][7], 0, most, found);
        Random random = new Random(found.size());
        for (int i = 0; i < Math.min(found.size(), 40); i++) {
            int[][] one = found.get(random.nextInt(found.size()));
            int[][] two = found.get(random.nextInt(found.size()));
            lookAtSum(bodies, gluings, one, two);
        }
    }

    private static void lookAtSum(int bodies, List<int[]> gluings, int[][] one, int[][] two) {
        Pair pair = glued(bodies, gluings);
        enter(pair, one);
        enter(pair, two);
        pair.lookAtSurface(0);
        pair.lookAtNumbers(0);
        types[pair.call("surface", 0, 7)]++;
        lookAtCells(pair, bodies, gluings, one);
        if (pair.call("add", 0, 1) >= 0) {
            pair.lookAtSurface(2);
            if (pair.call("add", 2, 2) >= 0) {
                pair.lookAtSurface(3);
            }
        }
    }

    /** Without a reversed line, the characteristic is that of the cells that the gluings leave of the surface. */
    private static void lookAtCells(Pair pair, int bodies, List<int[]> gluings, int[][] numbers) {
        if (pair.call("told", 4) > 0) {
            return;
        }
        cellsCounted++;
        int got = pair.call("surface", 0, 3);
        int due = Cells.characteristic(bodies, gluings, numbers) + 1000;
        if (got != due) {
            Pair.wrong++;
            System.out.println("surface(0, 3) answered " + got + ", its cells tell " + due);
        }
    }

    private static void enter(Pair pair, int[][] numbers) {
        int s = pair.call("put");
        for (int b = 0; b < numbers.length; b++) {
            for (int kind = 0; kind < 7; kind++) {
                if (numbers[b][kind] > 0) {
                    pair.call("piece", s, b, kind, numbers[b][kind]);
                }
            }
        }
    }

    /** Tries all numbers up to a bound, with at most one kind of quadrilaterals in a tetrahedron. */
    private static void search(Pair pair, int[][] numbers, int k, int most, List<int[][]> found) {
        if (k == 7 * numbers.length) {
            if (pair.model.matches(numbers)) {
                int[][] copy = new int[numbers.length][];
                for (int b = 0; b < copy.length; b++) {
                    copy[b] = numbers[b].clone();
                }
                found.add(copy);
            }
            return;
        }
        int[] row = numbers[k / 7];
        boolean closed = k % 7 == 5 && row[4] > 0 || k % 7 == 6 && row[4] + row[5] > 0;
        for (int n = 0; n <= (closed ? 0 : most); n++) {
            row[k % 7] = n;
            search(pair, numbers, k + 1, most, found);
        }
        row[k % 7] = 0;
    }
}
