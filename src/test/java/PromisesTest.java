/** The promises one by one, with answers worked out by hand from the document. */
public final class PromisesTest {
    private static final int NONE = -1, UNKNOWN = -1000000001, OUTSIDE = -1000000002, NOT = -1000000003, FULL = -1000000004;
    private static final int[] FAR = {Integer.MIN_VALUE, -1, 1000, Integer.MAX_VALUE};
    private static int promise;
    private static int number;
    private static int wrong;

    private PromisesTest() {
    }

    public static void main(String[] args) {
        promise1();
        promise2();
        promise3();
        promise4();
        promise5();
        promise6();
        promise7();
        promise8();
        promise9();
        promise10();
        promise11();
        promise12();
        promise13();
        promise14();
        promise15();
        promise16();
        promise17();
        promise18();
        promise19();
        promise20();
        promise21();
        promise22();
        promise23();
        promise24();
        System.out.println("PromisesTest: " + wrong + " wrong");
        if (wrong != 0) {
            System.exit(1);
        }
    }

    private static void begin(int which) {
        promise = which;
        number = 0;
    }

    private static void due(int got, int want) {
        number++;
        if (got != want) {
            wrong++;
            System.out.println("promise " + promise + ", row " + number + ": answered " + got + ", due is " + want);
        }
    }

    private static void dueTold(PieceSurfaces x, int... want) {
        for (int what = 0; what < want.length; what++) {
            due(x.told(what), want[what]);
        }
    }

    /** Numbers of a surface in one tetrahedron. */
    private static void duePieces(PieceSurfaces x, int s, int b, int... want) {
        for (int kind = 0; kind < want.length; kind++) {
            due(x.pieces(s, b, kind), want[kind]);
        }
    }

    private static void dueSurface(PieceSurfaces x, int s, int... want) {
        for (int what = 0; what < want.length; what++) {
            due(x.surface(s, what), want[what]);
        }
    }

    private static int withPieces(PieceSurfaces x, int... numbers) {
        int s = x.put();
        for (int k = 0; k < numbers.length; k++) {
            if (numbers[k] > 0) {
                x.piece(s, k / 7, k % 7, numbers[k]);
            }
        }
        return s;
    }

    /** One tetrahedron as a 3-sphere: corner 1 goes to 0 by face 0, corner 3 to 2 by face 2. */
    private static PieceSurfaces sphere() {
        PieceSurfaces x = new PieceSurfaces();
        x.glue(0, 0, 0, 1, 0);
        x.glue(0, 2, 0, 3, 0);
        return x;
    }

    /** One tetrahedron as the lens space L(4, 1). */
    private static PieceSurfaces lens() {
        PieceSurfaces x = new PieceSurfaces();
        x.glue(0, 0, 0, 1, 3);
        x.glue(0, 2, 0, 3, 3);
        return x;
    }

    /** One tetrahedron in which the edges 0 and 5 are glued to themselves, reversed. */
    private static PieceSurfaces twisted() {
        PieceSurfaces x = new PieceSurfaces();
        x.glue(0, 0, 0, 1, 1);
        x.glue(0, 2, 0, 3, 2);
        return x;
    }

    private static void promise1() {
        begin(1);
        PieceSurfaces x = new PieceSurfaces();
        dueTold(x, 1, 4, 4, 6, 0, 4, 1, 0, 101, 0, NONE, 0);
        due(x.goBack(0), NOT);
        due(x.goBack(1), NOT);
        due(x.undo(1), NOT);
        due(x.seed(7), 0);
        due(x.tear(), 0);
        due(x.surface(0, 2), UNKNOWN);
        PieceSurfaces y = new PieceSurfaces();
        x.bodies(3);
        x.put();
        x.write(0, 0);
        dueTold(y, 1, 4, 4, 6, 0, 4, 1, 0, 101, 0, NONE, 0);
        due(y.seed(0), 0);
    }

    private static void promise2() {
        begin(2);
        PieceSurfaces x = new PieceSurfaces();
        due(x.told(-1), OUTSIDE);
        due(x.told(12), OUTSIDE);
        for (int far : FAR) {
            due(x.told(far), OUTSIDE);
        }
        dueTold(sphere(), 1, 0, 2, 3, 0, 2, 1, 0, 100, 0, NONE, 2);
        dueTold(lens(), 1, 0, 1, 2, 0, 1, 1, 0, 100, 0, NONE, 2);
        // Both links have the characteristic 3, as the weight on a reversed line counts whole.
        dueTold(twisted(), 1, 0, 2, 4, 2, 0, 0, 0, 99, 0, NONE, 2);
        x.bodies(2);
        dueTold(x, 2, 8, 8, 12, 0, 8, 1, 0, 102, 0, NONE, 1);
        x.glue(0, 3, 1, 3, 0);
        dueTold(x, 2, 6, 5, 9, 0, 5, 1, 0, 101, 0, NONE, 2);
        x.about(0);
        x.write(0, 1);
        x.write(0, 1);
        dueTold(x, 2, 6, 5, 9, 0, 5, 1, 1, 101, 2, NONE, 3);
        x.write(0, 2);
        due(x.told(10), 2);
        x.piece(0, 0, 0, 2);
        due(x.told(10), 0);
        oneBadVertex();
    }

    private static void oneBadVertex() {
        // Edge 5 is glued to itself, reversed. The link of its vertex has the weights 0, 1, 1 and 2 on the lines,
        // 4 arcs (2 of them on free faces) and 2 pieces: with a boundary, 2 is not the characteristic that is due.
        PieceSurfaces x = new PieceSurfaces();
        x.glue(0, 0, 0, 1, 1);
        dueTold(x, 1, 2, 2, 4, 1, 1, 0, 0, 100);
        x.about(1);
        due(x.surface(0, 3), 1002);
        due(x.surface(0, 5), 2);
    }

    private static void promise3() {
        begin(3);
        int[] back = {0, 1, 2, 4, 3, 5};
        for (int way = 0; way < 6; way++) {
            PieceSurfaces x = new PieceSurfaces();
            x.bodies(3);
            x.glue(0, 2, 2, 1, way);
            due(x.wall(0, 2, 0), 2);
            due(x.wall(0, 2, 1), 1);
            due(x.wall(0, 2, 2), way);
            due(x.wall(2, 1, 0), 0);
            due(x.wall(2, 1, 1), 2);
            due(x.wall(2, 1, 2), back[way]);
            due(x.wall(1, 0, 0), NONE);
            due(x.wall(1, 0, 1), NONE);
            due(x.wall(2, 2, 2), NONE);
        }
        PieceSurfaces x = new PieceSurfaces();
        due(x.wall(1, 0, 0), UNKNOWN);
        due(x.wall(0, 4, 0), UNKNOWN);
        due(x.wall(0, 4, 9), UNKNOWN);
        due(x.wall(0, 0, 3), OUTSIDE);
        for (int far : FAR) {
            due(x.wall(far, 0, 0), UNKNOWN);
            due(x.wall(0, far, 0), UNKNOWN);
            due(x.wall(0, 0, far), OUTSIDE);
        }
    }

    private static void promise4() {
        begin(4);
        // Face 3 (corners 0, 1, 2) to face 0 of the next tetrahedron (corners 1, 2, 3).
        int[][] goes = {{5, 6, 7}, {5, 7, 6}, {6, 5, 7}, {6, 7, 5}, {7, 5, 6}, {7, 6, 5}};
        for (int way = 0; way < 6; way++) {
            PieceSurfaces x = new PieceSurfaces();
            x.bodies(2);
            x.glue(0, 3, 1, 0, way);
            due(x.corner(0, 3, 4), NONE);
            due(x.corner(1, 0, 1), NONE);
            for (int v = 0; v < 3; v++) {
                due(x.corner(0, v, 4), goes[way][v]);
                due(x.corner(1, goes[way][v] - 4, 1), v);
                due(x.corner(1, goes[way][v] - 4, 0), v);
                due(x.corner(0, v, 0), v);
                due(x.corner(0, v, 1), NONE);
            }
            due(x.corner(0, 3, 0), 3);
            due(x.corner(1, 0, 0), 4);
        }
        PieceSurfaces x = sphere();
        due(x.corner(0, 0, 0), 0);
        due(x.corner(0, 1, 0), 0);
        due(x.corner(0, 2, 0), 1);
        due(x.corner(0, 3, 0), 1);
        due(x.corner(1, 0, 0), UNKNOWN);
        due(x.corner(0, 4, 9), UNKNOWN);
        due(x.corner(0, 0, 5), OUTSIDE);
        for (int far : FAR) {
            due(x.corner(far, 0, 0), UNKNOWN);
            due(x.corner(0, far, 0), UNKNOWN);
            due(x.corner(0, 0, far), OUTSIDE);
        }
    }

    private static void promise5() {
        begin(5);
        int[] sphereLines = {0, 1, 1, 1, 1, 2};
        int[] sphereDegrees = {1, 4, 4, 4, 4, 1};
        int[] lensLines = {0, 1, 0, 0, 1, 0};
        int[] lensDegrees = {4, 2, 4, 4, 2, 4};
        int[] twistedLines = {0, 1, 2, 2, 1, 3};
        int[] twistedReversed = {1, 0, 0, 0, 0, 1};
        for (int e = 0; e < 6; e++) {
            due(sphere().edge(0, e, 0), sphereLines[e]);
            due(sphere().edge(0, e, 1), sphereDegrees[e]);
            due(sphere().edge(0, e, 2), 0);
            due(lens().edge(0, e, 0), lensLines[e]);
            due(lens().edge(0, e, 1), lensDegrees[e]);
            due(lens().edge(0, e, 2), 0);
            due(twisted().edge(0, e, 0), twistedLines[e]);
            due(twisted().edge(0, e, 2), twistedReversed[e]);
        }
        PieceSurfaces x = sphere();
        due(x.edge(0, 6, 0), UNKNOWN);
        due(x.edge(1, 0, 7), UNKNOWN);
        due(x.edge(0, 0, 3), OUTSIDE);
        for (int far : FAR) {
            due(x.edge(far, 0, 0), UNKNOWN);
            due(x.edge(0, far, 0), UNKNOWN);
            due(x.edge(0, 0, far), OUTSIDE);
        }
    }

    private static void promise6() {
        begin(6);
        PieceSurfaces x = new PieceSurfaces();
        x.bodies(2);
        due(x.pieces(0, 0, 0), UNKNOWN);
        withPieces(x, 1, 2, 3, 4, 5, 6, 7, 8, 9, 10, 11, 12, 13, 14);
        duePieces(x, 0, 0, 1, 2, 3, 4, 5, 6, 7);
        duePieces(x, 0, 1, 8, 9, 10, 11, 12, 13, 14);
        due(x.pieces(0, 2, 0), UNKNOWN);
        due(x.pieces(1, 0, 9), UNKNOWN);
        due(x.pieces(0, 0, 7), OUTSIDE);
        for (int far : FAR) {
            due(x.pieces(far, 0, 0), UNKNOWN);
            due(x.pieces(0, far, 0), UNKNOWN);
            due(x.pieces(0, 0, far), OUTSIDE);
        }
    }

    private static void promise7() {
        begin(7);
        PieceSurfaces x = sphere();
        dueSurface(x, withPieces(x), 1, 0, 0, 1000, 0, 0, 0, 0, 0);
        dueSurface(x, withPieces(x, 1, 1, 0, 0), 1, 0, 2, 1002, 1, 0, 1, 2, 0);
        dueSurface(x, withPieces(x, 0, 0, 0, 0, 1), 1, 0, 1, 1000, 1, 0, 1, 4, 0);
        dueSurface(x, withPieces(x, 2, 2, 1, 1, 3), 1, 0, 9, 1006, 6, 0, 6, 0, 1);
        dueSurface(x, withPieces(x, 1, 0, 0, 0), 0, 0, 1, NONE, NONE, NONE, NONE, NONE, NONE);
        dueSurface(x, withPieces(x, 0, 0, 0, 0, 0, 1, 1), 1, 1, 2, NONE, NONE, NONE, NONE, NONE, NONE);
        x = lens();
        dueSurface(x, withPieces(x, 0, 0, 0, 0, 0, 1), 1, 0, 1, 1000, 1, 0, 0, 5, 0);
        // Two parallel one-sided pieces make one two-sided surface, a torus.
        dueSurface(x, withPieces(x, 0, 0, 0, 0, 0, 2), 1, 0, 2, 1000, 1, 0, 1, 4, 1);
        dueSurface(x, withPieces(x, 0, 0, 0, 0, 0, 3), 1, 0, 3, 1000, 2, 0, 1, 0, 1);
        x = twisted();
        dueSurface(x, withPieces(x, 0, 0, 0, 0, 1), 1, 0, 1, 1001, 1, 0, 1, 3, 0);
        dueSurface(x, withPieces(x, 1, 1), 1, 0, 2, 1003, 1, 0, 1, 6, 0);
        x = new PieceSurfaces();
        dueSurface(x, withPieces(x, 0, 0, 0, 0, 1), 1, 0, 1, 1001, 1, 4, 1, 1, 0);
        dueSurface(x, withPieces(x, 1, 2, 0, 0, 0, 0, 1), 1, 0, 4, 1004, 4, 13, 4, 0, 1);
        splitLimit();
        noSplit();
        lastCondition();
        due(x.surface(2, 0), UNKNOWN);
        due(x.surface(2, 9), UNKNOWN);
        due(x.surface(0, 9), OUTSIDE);
        for (int far : FAR) {
            due(x.surface(far, 0), UNKNOWN);
            due(x.surface(0, far), OUTSIDE);
        }
    }

    private static void splitLimit() {
        PieceSurfaces x = new PieceSurfaces();
        // 20 * 20 * 15 = 6000, and 17 * 353 = 6001 has too large a factor: the next product is 6006 = 11 * 13 * 14 * 3
        due(x.surface(withPieces(x, 19, 19, 14), 8), 1);
        due(x.surface(withPieces(x, 10, 12, 13, 2), 8), NONE);
        due(x.surface(withPieces(x, 20, 20, 20, 20, 20), 8), NONE);
        due(x.surface(2, 4), 100);
        due(x.surface(withPieces(x, 19, 19, 14, 1), 8), NONE);
        x.bodies(3);
        int s = withPieces(x, 20, 20, 20, 20, 20, 0, 0, 20, 20, 20, 20, 0, 20, 0, 20, 20, 20, 20, 0, 0, 20);
        due(x.surface(s, 8), NONE);
        due(x.surface(s, 2), 300);
        due(x.surface(s, 4), 300);
        due(x.surface(s, 6), 300);
        due(x.surface(s, 3), 1300);
    }

    private static void noSplit() {
        // The conditions ask that the other three numbers are equal, and that the first is twice as large.
        PieceSurfaces x = new PieceSurfaces();
        x.bodies(2);
        x.glue(1, 3, 0, 0, 5);
        x.glue(1, 0, 0, 3, 5);
        x.glue(1, 1, 1, 2, 1);
        x.glue(0, 1, 0, 2, 0);
        due(x.surface(withPieces(x, 2, 0, 0, 1, 0, 0, 0, 0, 0, 0, 1, 0, 0, 1), 8), 0);
        due(x.surface(withPieces(x, 4, 0, 0, 2, 0, 0, 0, 0, 0, 0, 2, 0, 0, 2), 8), 1);
        due(x.surface(withPieces(x, 3, 0, 0, 1, 0, 0, 0, 0, 0, 0, 1, 0, 0, 1), 8), NONE);
    }

    private static void lastCondition() {
        // Three spheres; only the last corner of the last glued face has other numbers of arcs on both sides.
        PieceSurfaces x = new PieceSurfaces();
        x.bodies(3);
        for (int b = 0; b < 3; b++) {
            x.glue(b, 0, b, 1, 0);
            x.glue(b, 2, b, 3, 0);
        }
        int s = withPieces(x, 1, 1, 1, 1, 0, 0, 0, 1, 1, 1, 1, 0, 0, 0, 1, 1, 1, 1);
        due(x.surface(s, 0), 1);
        due(x.surface(s, 4), 6);
        x.piece(s, 2, 3, 2);
        due(x.surface(s, 0), 0);
    }

    private static void promise8() {
        begin(8);
        PieceSurfaces x = new PieceSurfaces();
        x.bodies(2);
        due(x.weight(0, 0, 0), UNKNOWN);
        withPieces(x, 0, 0, 0, 0, 0, 0, 0, 1, 2, 4, 8, 16, 0, 0);
        int[] four = {3, 21, 25, 22, 26, 12};
        withPieces(x, 1, 2, 4, 8, 3, 5, 9);
        int[] all = {17, 17, 17, 14, 22, 26};
        for (int e = 0; e < 6; e++) {
            due(x.weight(0, 0, e), 0);
            due(x.weight(0, 1, e), four[e]);
            due(x.weight(1, 0, e), all[e]);
        }
        due(x.weight(0, 0, 6), UNKNOWN);
        due(x.weight(0, 2, 0), UNKNOWN);
        due(x.weight(2, 0, 0), UNKNOWN);
        for (int far : FAR) {
            due(x.weight(far, 0, 0), UNKNOWN);
            due(x.weight(0, far, 0), UNKNOWN);
            due(x.weight(0, 0, far), UNKNOWN);
        }
    }

    private static void promise9() {
        begin(9);
        PieceSurfaces x = new PieceSurfaces();
        withPieces(x, 1, 2, 4, 8, 3, 5, 9);
        int[][] want = {{UNKNOWN, 5, 9, 17}, {4, UNKNOWN, 13, 13}, {6, 11, UNKNOWN, 11}, {10, 7, 7, UNKNOWN}};
        for (int f = 0; f < 4; f++) {
            for (int v = 0; v < 4; v++) {
                due(x.arcs(0, 0, f, v), want[f][v]);
            }
        }
        due(x.arcs(0, 0, 0, 4), UNKNOWN);
        due(x.arcs(0, 0, 4, 0), UNKNOWN);
        due(x.arcs(0, 1, 0, 1), UNKNOWN);
        due(x.arcs(1, 0, 0, 1), UNKNOWN);
        for (int far : FAR) {
            due(x.arcs(far, 0, 0, 1), UNKNOWN);
            due(x.arcs(0, far, 0, 1), UNKNOWN);
            due(x.arcs(0, 0, far, 1), UNKNOWN);
            due(x.arcs(0, 0, 0, far), UNKNOWN);
        }
    }

    private static void promise10() {
        begin(10);
        PieceSurfaces x = sphere();
        x.put();
        due(x.bodies(1), 1);
        dueTold(x, 1, 4, 4, 6, 0, 4, 1, 0, 101, 0, NONE, 4);
        due(x.bodies(3), 1);
        dueTold(x, 3, 12, 12, 18, 0, 12, 1, 0, 103, 0, NONE, 5);
        x.glue(1, 0, 2, 0, 0);
        due(x.bodies(2), 3);
        due(x.told(1), 8);
        due(x.bodies(0), OUTSIDE);
        due(x.bodies(4), OUTSIDE);
        for (int far : FAR) {
            due(x.bodies(far), OUTSIDE);
        }
        due(x.told(0), 2);
        due(x.told(11), 7);
        due(x.bodies(3), 2);
        due(x.wall(1, 0, 0), NONE);
    }

    private static void promise11() {
        begin(11);
        PieceSurfaces x = new PieceSurfaces();
        x.bodies(2);
        x.put();
        due(x.glue(0, 0, 0, 0, 0), NOT);
        due(x.glue(0, 0, 0, 0, 6), OUTSIDE);
        due(x.glue(0, 0, 2, 0, 6), UNKNOWN);
        due(x.glue(0, 0, 1, 0, -1), OUTSIDE);
        due(x.told(7), 1);
        due(x.told(11), 2);
        due(x.glue(0, 0, 1, 0, 5), 6);
        due(x.told(7), 0);
        x.put();
        due(x.glue(0, 0, 0, 1, 0), NOT);
        due(x.glue(0, 1, 1, 0, 0), NOT);
        due(x.glue(0, 0, 1, 0, 5), NOT);
        due(x.glue(0, 1, 1, 0, 6), OUTSIDE);
        due(x.told(7), 1);
        due(x.glue(1, 3, 1, 2, 0), 4);
        due(x.told(11), 5);
        for (int far : FAR) {
            due(x.glue(far, 1, 1, 1, 0), UNKNOWN);
            due(x.glue(0, far, 1, 1, 0), UNKNOWN);
            due(x.glue(0, 1, far, 1, 0), UNKNOWN);
            due(x.glue(0, 1, 1, far, far), UNKNOWN);
            due(x.glue(0, 1, 1, 1, far), OUTSIDE);
        }
        due(x.told(1), 4);
    }

    private static void promise12() {
        begin(12);
        PieceSurfaces x = lens();
        x.put();
        due(x.free(0, 3), 2);
        due(x.told(7), 0);
        due(x.wall(0, 2, 0), NONE);
        due(x.wall(0, 3, 0), NONE);
        due(x.wall(0, 0, 1), 1);
        x.put();
        due(x.free(0, 2), NOT);
        due(x.free(0, 4), UNKNOWN);
        due(x.free(1, 0), UNKNOWN);
        for (int far : FAR) {
            due(x.free(far, 0), UNKNOWN);
            due(x.free(0, far), UNKNOWN);
        }
        due(x.told(7), 1);
        due(x.told(11), 5);
        due(x.free(0, 0), 4);
        due(x.told(2), 4);
        due(x.glue(0, 3, 0, 1, 0), 2);
    }

    private static void promise13() {
        begin(13);
        PieceSurfaces x = new PieceSurfaces();
        for (int s = 0; s < 6; s++) {
            due(x.put(), s);
            duePieces(x, s, 0, 0, 0, 0, 0, 0, 0, 0);
            x.piece(s, 0, 4, 20);
        }
        due(x.put(), FULL);
        due(x.told(7), 6);
        due(x.told(11), 12);
        x.take(5);
        due(x.put(), 5);
        duePieces(x, 5, 0, 0, 0, 0, 0, 0, 0, 0);
    }

    private static void promise14() {
        begin(14);
        PieceSurfaces x = new PieceSurfaces();
        due(x.piece(0, 0, 0, 0), UNKNOWN);
        x.put();
        x.put();
        due(x.piece(1, 0, 6, 20), 0);
        due(x.piece(1, 0, 6, 20), 20);
        due(x.piece(1, 0, 6, 0), 20);
        due(x.piece(1, 0, 5, 3), 0);
        duePieces(x, 0, 0, 0, 0, 0, 0, 0, 0, 0);
        duePieces(x, 1, 0, 0, 0, 0, 0, 0, 3, 0);
        due(x.told(11), 6);
        due(x.piece(1, 0, 5, 21), OUTSIDE);
        due(x.piece(1, 0, 5, -1), OUTSIDE);
        due(x.piece(1, 0, 7, 1), OUTSIDE);
        due(x.piece(1, 1, 7, 1), UNKNOWN);
        due(x.piece(2, 0, 0, 99), UNKNOWN);
        for (int far : FAR) {
            due(x.piece(far, 0, 0, 0), UNKNOWN);
            due(x.piece(0, far, 0, 0), UNKNOWN);
            due(x.piece(0, 0, far, 0), OUTSIDE);
            due(x.piece(0, 0, 0, far), OUTSIDE);
        }
        due(x.told(11), 6);
        duePieces(x, 1, 0, 0, 0, 0, 0, 0, 3, 0);
    }

    private static void promise15() {
        begin(15);
        PieceSurfaces x = new PieceSurfaces();
        x.bodies(2);
        x.glue(0, 3, 1, 0, 3);
        due(x.about(0), 0);
        duePieces(x, 0, 0, 1, 0, 0, 0, 0, 0, 0);
        duePieces(x, 0, 1, 0, 0, 1, 0, 0, 0, 0);
        due(x.about(4), 1);
        duePieces(x, 1, 0, 0, 0, 0, 0, 0, 0, 0);
        duePieces(x, 1, 1, 1, 0, 0, 0, 0, 0, 0);
        due(x.about(5), UNKNOWN);
        for (int far : FAR) {
            due(x.about(far), UNKNOWN);
        }
        due(x.told(11), 4);
        for (int s = 2; s < 6; s++) {
            due(x.about(3), s);
        }
        due(x.about(0), FULL);
        due(x.about(5), UNKNOWN);
        due(x.told(7), 6);
        due(x.told(11), 8);
        x = lens();
        due(x.about(0), 0);
        duePieces(x, 0, 0, 1, 1, 1, 1, 0, 0, 0);
        due(x.about(1), UNKNOWN);
    }

    private static void promise16() {
        begin(16);
        PieceSurfaces x = new PieceSurfaces();
        withPieces(x, 1, 2, 3, 4, 10, 0, 0);
        withPieces(x, 11, 0, 0, 16, 10, 0, 0);
        due(x.add(0, 1), 2);
        duePieces(x, 2, 0, 12, 2, 3, 20, 20, 0, 0);
        due(x.add(0, 0), 3);
        duePieces(x, 3, 0, 2, 4, 6, 8, 20, 0, 0);
        int steps = x.told(11);
        due(x.add(2, 2), NOT);
        due(x.add(0, 3), NOT);
        due(x.add(0, 4), UNKNOWN);
        due(x.add(4, 0), UNKNOWN);
        for (int far : FAR) {
            due(x.add(far, 0), UNKNOWN);
            due(x.add(0, far), UNKNOWN);
        }
        withPieces(x, 0, 0, 0, 0, 0, 1, 0);
        due(x.add(0, 4), NOT);
        due(x.add(4, 4), 5);
        due(x.add(0, 1), FULL);
        due(x.add(2, 2), FULL);
        due(x.add(0, 6), UNKNOWN);
        duePieces(x, 0, 0, 1, 2, 3, 4, 10, 0, 0);
        due(x.told(11), Math.min(16, steps + 3));
        crossingParts();
        tooMany();
    }

    private static void tooMany() {
        for (int k = 0; k < 21; k++) {
            PieceSurfaces x = new PieceSurfaces();
            x.bodies(3);
            x.put();
            x.put();
            x.piece(0, k / 7, k % 7, 1);
            x.piece(1, k / 7, k % 7, 20);
            due(x.add(0, 1), NOT);
            x.piece(1, k / 7, k % 7, 19);
            due(x.add(0, 1), 2);
            due(x.pieces(2, k / 7, k % 7), 20);
        }
    }

    private static void crossingParts() {
        PieceSurfaces x = new PieceSurfaces();
        withPieces(x, 0, 0, 0, 0, 1, 1, 0);
        withPieces(x);
        due(x.add(0, 1), NOT);
        due(x.add(1, 0), NOT);
        due(x.add(1, 1), 2);
        duePieces(x, 2, 0, 0, 0, 0, 0, 0, 0, 0);
        // A quadrilateral of another kind in another tetrahedron does not cross.
        x.bodies(2);
        withPieces(x, 0, 0, 0, 0, 1, 0, 0);
        withPieces(x, 0, 0, 0, 0, 0, 0, 0, 0, 0, 0, 0, 0, 1, 0);
        due(x.add(0, 1), 2);
        due(x.surface(2, 1), 0);
    }

    private static void promise17() {
        begin(17);
        PieceSurfaces x = new PieceSurfaces();
        due(x.take(0), UNKNOWN);
        for (int s = 0; s < 6; s++) {
            withPieces(x, s, 0, 0, 0, 0, 0, s);
        }
        due(x.take(2), 5);
        int[] left = {0, 1, 3, 4, 5};
        for (int s = 0; s < 5; s++) {
            duePieces(x, s, 0, left[s], 0, 0, 0, 0, 0, left[s]);
        }
        due(x.take(5), UNKNOWN);
        due(x.take(4), 4);
        due(x.take(0), 3);
        duePieces(x, 0, 0, 1, 0, 0, 0, 0, 0, 1);
        for (int far : FAR) {
            due(x.take(far), UNKNOWN);
        }
        due(x.undo(3), 6);
        for (int s = 0; s < 6; s++) {
            duePieces(x, s, 0, s, 0, 0, 0, 0, 0, s);
        }
    }

    private static void promise18() {
        begin(18);
        // From seed 0, one tetrahedron: the first draw glues faces 0 and 1 by way 0, the eighth 2 and 3 by way 4.
        PieceSurfaces x = new PieceSurfaces();
        due(x.drift(1), 2);
        due(x.wall(0, 0, 1), 1);
        due(x.wall(0, 0, 2), 0);
        due(x.seed(229283573), 229283573);
        x.put();
        due(x.drift(6), 2);
        due(x.told(7), 1);
        due(x.told(11), 8);
        due(x.drift(5), 0);
        due(x.told(7), 0);
        due(x.wall(0, 2, 1), 3);
        due(x.wall(0, 2, 2), 4);
        due(x.wall(0, 3, 2), 3);
        due(x.seed(0), 321843028);
        due(x.told(11), 13);
        x.bodies(3);
        due(x.drift(12), 4);
        due(x.wall(0, 0, 0), 1);
        due(x.wall(0, 0, 1), 1);
        due(x.wall(0, 3, 0), 1);
        due(x.wall(0, 3, 1), 3);
        due(x.wall(0, 3, 2), 2);
        due(x.wall(2, 0, 0), 1);
        due(x.wall(2, 0, 1), 0);
        due(x.wall(2, 0, 2), 3);
        due(x.wall(2, 2, 0), 1);
        due(x.wall(2, 2, 1), 2);
        due(x.wall(2, 2, 2), 2);
        due(x.told(11), 16);
        largestSeed();
        due(x.drift(0), OUTSIDE);
        due(x.drift(13), OUTSIDE);
        for (int far : FAR) {
            due(x.drift(far), OUTSIDE);
        }
        due(x.seed(0), 321843028);
    }

    private static void largestSeed() {
        PieceSurfaces x = new PieceSurfaces();
        x.bodies(3);
        x.seed(Integer.MAX_VALUE);
        due(x.drift(1), 10);
        due(x.wall(2, 1, 0), 1);
        due(x.wall(2, 1, 1), 2);
        due(x.wall(2, 1, 2), 1);
        due(x.drift(2), 10);
        due(x.seed(1), 652027854);
    }

    private static void promise19() {
        begin(19);
        PieceSurfaces x = new PieceSurfaces();
        due(x.undo(0), OUTSIDE);
        due(x.undo(17), OUTSIDE);
        due(x.undo(1), NOT);
        for (int far : FAR) {
            due(x.undo(far), OUTSIDE);
        }
        x.put();
        for (int n = 1; n <= 20; n++) {
            x.piece(0, 0, 0, n);
        }
        due(x.told(11), 16);
        due(x.undo(4), 1);
        duePieces(x, 0, 0, 16);
        due(x.told(11), 12);
        due(x.undo(13), NOT);
        duePieces(x, 0, 0, 16);
        x.piece(0, 0, 0, 1);
        due(x.told(11), 13);
        due(x.undo(13), 1);
        duePieces(x, 0, 0, 4);
        due(x.told(11), 0);
        due(x.undo(1), NOT);
        undoneRooms();
        undoneDrift();
    }

    private static void undoneRooms() {
        PieceSurfaces x = lens();
        x.put();
        x.piece(0, 0, 5, 1);
        x.put();
        x.write(0, 0);
        x.free(0, 0);
        due(x.told(10), 0);
        due(x.undo(1), 2);
        due(x.told(10), NONE);
        due(x.surface(0, 7), 5);
        due(x.wall(0, 1, 2), 4);
        x.bodies(3);
        x.bodies(1);
        due(x.undo(2), 2);
        due(x.surface(0, 7), 5);
        due(x.told(9), 1);
        due(x.undo(3), 0);
        due(x.told(9), 1);
        due(x.undo(2), 0);
        due(x.told(1), 4);
        due(x.told(11), 0);
    }

    private static void undoneDrift() {
        PieceSurfaces x = new PieceSurfaces();
        x.put();
        x.drift(12);
        due(x.undo(5), 0);
        due(x.told(1), 2);
        due(x.undo(6), 0);
        due(x.told(1), 2);
        due(x.undo(1), 1);
        due(x.told(1), 4);
        due(x.seed(0), 321843028);
        x.drift(12);
        x.drift(12);
        due(x.told(11), 16);
        due(x.undo(16), 0);
        due(x.told(1), 0);
    }

    private static void promise20() {
        begin(20);
        PieceSurfaces x = sphere();
        due(x.write(0, 0), UNKNOWN);
        withPieces(x, 1, 1);
        int steps = x.told(11);
        due(x.write(0, 2), 1);
        due(x.told(10), NONE);
        due(x.write(0, Integer.MIN_VALUE), 2);
        due(x.told(10), 1);
        for (int n = 3; n <= 20; n++) {
            due(x.write(0, 2), n);
        }
        due(x.write(0, 2), FULL);
        due(x.write(1, 2), UNKNOWN);
        for (int far : FAR) {
            due(x.write(far, 2), UNKNOWN);
        }
        due(x.told(9), 20);
        due(x.told(11), steps);
        due(x.told(10), 1);
        x.take(0);
        due(x.told(10), 0);
        x.about(1);
        due(x.told(10), 1);
        x.piece(0, 0, 0, 1);
        due(x.told(10), 0);
    }

    private static void promise21() {
        begin(21);
        PieceSurfaces x = new PieceSurfaces();
        due(x.tear(), 0);
        x.put();
        x.write(0, 5);
        x.write(0, 0);
        due(x.told(10), 0);
        due(x.tear(), 2);
        due(x.told(9), 0);
        due(x.told(10), NONE);
        due(x.told(11), 1);
        due(x.tear(), 0);
        due(x.write(0, 0), 1);
        due(x.told(10), NONE);
    }

    private static void promise22() {
        begin(22);
        PieceSurfaces x = new PieceSurfaces();
        due(x.seed(5), 0);
        due(x.seed(-1), OUTSIDE);
        due(x.seed(Integer.MIN_VALUE), OUTSIDE);
        due(x.seed(Integer.MAX_VALUE), 5);
        due(x.seed(0), Integer.MAX_VALUE);
        due(x.told(11), 0);
        x.put();
        x.seed(9);
        x.undo(1);
        due(x.seed(0), 9);
    }

    private static void promise23() {
        begin(23);
        PieceSurfaces x = sphere();
        due(x.keep(2), UNKNOWN);
        for (int far : FAR) {
            due(x.keep(far), UNKNOWN);
        }
        due(x.told(11), 2);
        withPieces(x, 1, 1);
        x.seed(77);
        due(x.keep(1), 1);
        due(x.told(11), 0);
        due(x.undo(1), NOT);
        dueSurface(x, 0, 1, 0, 2, 1002);
        x.piece(0, 0, 0, 9);
        due(x.told(11), 1);
        x.seed(78);
        x.bodies(2);
        due(x.keep(0), 1);
        due(x.goBack(1), 1);
        duePieces(x, 0, 0, 1, 1, 0, 0, 0, 0, 0);
        due(x.seed(3), 77);
        due(x.keep(1), 1);
        due(x.goBack(0), 1);
        due(x.told(0), 2);
        due(x.seed(4), 78);
        due(x.goBack(1), 1);
        due(x.seed(5), 3);
    }

    private static void promise24() {
        begin(24);
        PieceSurfaces x = lens();
        due(x.goBack(0), NOT);
        due(x.goBack(1), NOT);
        due(x.goBack(2), UNKNOWN);
        for (int far : FAR) {
            due(x.goBack(far), UNKNOWN);
        }
        due(x.told(11), 2);
        withPieces(x, 0, 0, 0, 0, 0, 1);
        x.keep(0);
        x.write(0, 0);
        for (int i = 0; i < 2; i++) {
            x.bodies(3);
            x.seed(50);
            x.drift(2);
            due(x.goBack(1), NOT);
            due(x.goBack(0), 1);
            due(x.told(0), 1);
            due(x.told(1), 0);
            due(x.told(7), 1);
            due(x.told(9), 1);
            due(x.told(10), NONE);
            due(x.told(11), 0);
            due(x.undo(1), NOT);
            due(x.surface(0, 7), 5);
            due(x.wall(0, 3, 2), 4);
            due(x.seed(0), 0);
            x.piece(0, 0, 0, 3);
        }
        due(x.told(10), 0);
    }
}
