import java.util.List;

/**
 * The Euler characteristic of a surface from its cells: the points where it meets the edges, of which the gluings make
 * some the same, minus its arcs, plus its pieces. No line is looked for, so this owes nothing to the class or to the model.
 */
final class Cells {
    /** The six ways, in the order in which the document lists them. */
    private static final int[][] WAYS = {{0, 1, 2}, {0, 2, 1}, {1, 0, 2}, {1, 2, 0}, {2, 0, 1}, {2, 1, 0}};
    /** More points than an edge can have: 20 of each of two triangles and of one quadrilateral. */
    private static final int ROOM = 61;

    private final int[][] numbers;
    private final int[] same = new int[3 * 16 * ROOM];

    private Cells(int[][] numbers) {
        this.numbers = numbers;
        for (int i = 0; i < same.length; i++) {
            same[i] = i;
        }
    }

    static int characteristic(int bodies, List<int[]> gluings, int[][] numbers) {
        Cells cells = new Cells(numbers);
        int arcs = 0;
        int pieces = 0;
        for (int b = 0; b < bodies; b++) {
            for (int kind = 0; kind < 7; kind++) {
                pieces += numbers[b][kind];
                arcs += (kind < 4 ? 3 : 4) * numbers[b][kind];
            }
        }
        for (int[] g : gluings) {
            cells.glue(g);
            arcs -= cells.arcsOn(g[0], g[1]);
        }
        return cells.points(bodies) - arcs + pieces;
    }

    private int arcsOn(int b, int f) {
        int[] row = numbers[b];
        return row[0] + row[1] + row[2] + row[3] - row[f] + row[4] + row[5] + row[6];
    }

    private int pointsBetween(int b, int c, int d) {
        int sum = numbers[b][c] + numbers[b][d];
        int[] partnerOfZero = {1, 2, 3};
        for (int kind = 4; kind < 7; kind++) {
            int with = partnerOfZero[kind - 4];
            boolean here = c == 0 || c == with;
            boolean there = d == 0 || d == with;
            sum += here == there ? 0 : numbers[b][kind];
        }
        return sum;
    }

    /** Point i of an edge, counted from corner c. */
    private int point(int b, int c, int d, int i) {
        return c < d ? (16 * b + 4 * c + d) * ROOM + i : point(b, d, c, pointsBetween(b, c, d) - 1 - i);
    }

    private static int cornerAt(int f, int place) {
        return place < f ? place : place + 1;
    }

    private void glue(int[] g) {
        for (int i = 0; i < 3; i++) {
            for (int j = i + 1; j < 3; j++) {
                int c = cornerAt(g[1], i);
                int d = cornerAt(g[1], j);
                int toC = cornerAt(g[3], WAYS[g[4]][i]);
                int toD = cornerAt(g[3], WAYS[g[4]][j]);
                for (int k = 0; k < pointsBetween(g[0], c, d); k++) {
                    same[root(point(g[0], c, d, k))] = root(point(g[2], toC, toD, k));
                }
            }
        }
    }

    private int root(int point) {
        return same[point] == point ? point : root(same[point]);
    }

    private int points(int bodies) {
        int sum = 0;
        for (int b = 0; b < bodies; b++) {
            for (int c = 0; c < 4; c++) {
                for (int d = c + 1; d < 4; d++) {
                    for (int k = 0; k < pointsBetween(b, c, d); k++) {
                        sum += root(point(b, c, d, k)) == point(b, c, d, k) ? 1 : 0;
                    }
                }
            }
        }
        return sum;
    }
}
