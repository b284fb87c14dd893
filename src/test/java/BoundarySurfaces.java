/** Boundary cases of surfaces, and of promises 6 to 9. */
final class BoundarySurfaces {
    private static final int NONE = Sentences.NONE, UNKNOWN = Sentences.UNKNOWN, OUTSIDE = Sentences.OUTSIDE, FULL = Sentences.FULL;

    private BoundarySurfaces() {
    }

    static void all() {
        atMostSix();
        zeroToTwenty();
        allRemoved();
        matching();
        crossing();
        normal();
        characteristic();
        components();
        boundaryNumber();
        twoSided();
        types();
        links();
        goodVertices();
        manifold();
        splitting();
        piecesUnknown();
        piecesOutside();
        surfaceNotNormal();
        surfaceSplitLimit();
        surfaceUnknown();
        surfaceOutside();
        weightUnknown();
        arcsUnknown();
    }

    private static void atMostSix() {
        Sentences.of("SURFACES", "There are at most 6 surfaces, numbered from 0; if one is removed, the numbers of later ones "
            + "decrease by 1.");
        Subject x = new Subject();
        for (int s = 0; s < 6; s++) {
            x.due("put", s);
            x.due("piece " + s + " 0 3 " + (10 + s), 0);
        }
        x.due("told 7", 6);
        x.due("put", FULL);
        x.due("take 2", 5);
        x.dueRow("pieces # 0 3", 10, 11, 13, 14, 15, UNKNOWN);
        x.due("take 4", 4);
        x.dueRow("pieces # 0 3", 10, 11, 13, 14, UNKNOWN);
        x.due("take 0", 3);
        x.dueRow("pieces # 0 3", 11, 13, 14, UNKNOWN);
        x.due("put", 3);
        x.dueRow("pieces # 0 3", 11, 13, 14, 0, UNKNOWN);
    }

    private static void zeroToTwenty() {
        Sentences.of("SURFACES", "A surface has a number of pieces, 0 to 20, of each kind in each tetrahedron.");
        Subject x = Subject.after("bodies 3, put");
        for (int k = 0; k < 21; k++) {
            x.due("pieces 0 " + k / 7 + " " + k % 7, 0);
            x.due("piece 0 " + k / 7 + " " + k % 7 + " 20", 0);
            x.due("pieces 0 " + k / 7 + " " + k % 7, 20);
            x.due("piece 0 " + k / 7 + " " + k % 7 + " 21", OUTSIDE);
            x.due("surface 0 2", 20 * k + 20);
        }
    }

    private static void allRemoved() {
        Sentences.of("SURFACES", "All surfaces are removed when two faces are glued, when a glued face becomes free, and by bodies().");
        String six = ", " + Scenes.SIX;
        Subject.after("seed 0" + six + ", glue 0 0 0 1 0").due("told 7", 0);
        Subject.after("glue 0 0 0 1 0" + six + ", free 0 0").due("told 7", 0);
        Subject.after("glue 0 0 0 1 0" + six + ", free 0 1").due("told 7", 0);
        Subject.after("seed 0" + six + ", bodies 1").due("told 7", 0);
        Subject.after("seed 0" + six + ", bodies 3").due("told 7", 0);
        // From seed 0, the first gluing that is tried glues faces 0 and 1; the second, of 1 and 2, does nothing then.
        Subject.after("seed 0" + six + ", drift 1").due("told 7", 0);
        Subject.after("drift 1" + six + ", drift 1").due("told 7", 6);
        Subject.after("glue 0 0 0 1 0" + six + ", glue 0 0 0 2 0").due("told 7", 6);
        Subject.after("glue 0 0 0 1 0" + six + ", free 0 2").due("told 7", 6);
        Subject.after("glue 0 0 0 1 0" + six + ", bodies 4").due("told 7", 6);
    }

    private static void matching() {
        Sentences.of("SURFACES", "A surface matches if, wherever two faces are glued, each corner of the one face has as many arcs "
            + "as the corner of the other face to which it is glued.");
        // Without gluings everything matches.
        Subject.after("bodies 3, " + Sentences.shape(0, 1, 2, 3, 4, 5, 6, 7, 8)).due("surface 0 0", 1);
        // By way 3 corners 1, 2, 3 go to 2, 3, 0 of the other: one piece more at any of them does not match.
        String three = "bodies 2, glue 0 0 1 1 3, " + Sentences.shape(0, 0, 3, 5, 7, 0, 0, 0, 7, 0, 3, 5);
        Subject.after(three).due("surface 0 0", 1);
        int[] more = {4, 6, 8};
        for (int v = 1; v < 4; v++) {
            Subject.after(three + ", piece 0 0 " + v + " " + more[v - 1]).due("surface 0 0", 0);
        }
        // Corners 0 and 1 of the faces' own numbers have no arcs there.
        Subject.after(three + ", piece 0 0 0 20, piece 0 1 1 20").due("surface 0 0", 1);
        // A quadrilateral stands for a triangle at one corner of each face.
        Subject.after("bodies 2, glue 0 0 1 0 0, " + Sentences.shape(0, 0, 0, 0, 0, 1, 0, 0, 0, 1)).due("surface 0 0", 1);
        Subject.after("bodies 2, glue 0 0 1 0 0, " + Sentences.shape(0, 0, 0, 0, 0, 1, 0, 0, 0, 0, 1)).due("surface 0 0", 0);
        matchingOnOneSide();
        matchingAtTheLastFace();
    }

    private static void matchingOnOneSide() {
        // One piece, on one side of the gluing: only the triangle at the corner without arcs there matches.
        for (int b = 0; b < 2; b++) {
            for (int kind = 0; kind < 7; kind++) {
                Subject.after("bodies 2, glue 0 0 1 0 0, put, piece 0 " + b + " " + kind + " 1").due("surface 0 0", kind == 0 ? 1 : 0);
                Subject.after("bodies 3, glue 1 3 2 0 5, put, piece 0 " + (1 + b) + " " + kind + " 1")
                    .due("surface 0 0", kind == 3 - 3 * b ? 1 : 0);
            }
        }
    }

    private static void matchingAtTheLastFace() {
        String spheres = "bodies 3";
        for (int b = 0; b < 3; b++) {
            spheres += ", glue " + b + " 0 " + b + " 1 0, glue " + b + " 2 " + b + " 3 0";
        }
        int[] ones = {1, 1, 1, 1, 0, 0, 0, 1, 1, 1, 1, 0, 0, 0, 1, 1, 1, 1};
        Subject.after(spheres + ", " + Sentences.shape(0, ones)).due("surface 0 0", 1);
        for (int b = 0; b < 3; b++) {
            for (int v = 0; v < 4; v++) {
                Subject.after(spheres + ", " + Sentences.shape(0, ones) + ", piece 0 " + b + " " + v + " 2").due("surface 0 0", 0);
            }
        }
    }

    private static void crossing() {
        Sentences.of("SURFACES", "A surface crosses itself if it has quadrilaterals of two kinds in one tetrahedron.");
        for (int b = 0; b < 3; b++) {
            for (int kind = 4; kind < 7; kind++) {
                String one = "bodies 3, put, piece 0 " + b + " " + kind + " 20";
                Subject.after(one).due("surface 0 1", 0);
                int next = kind == 6 ? 4 : kind + 1;
                Subject.after(one + ", piece 0 " + b + " " + next + " 1").due("surface 0 1", 1);
                Subject.after(one + ", piece 0 " + (b + 1) % 3 + " " + next + " 1").due("surface 0 1", 0);
                Subject.after(one + ", piece 0 " + b + " " + next + " 1, piece 0 " + b + " " + kind + " 0").due("surface 0 1", 0);
            }
        }
        Subject.after("put").due("surface 0 1", 0);
        Subject.after(Sentences.shape(0, 1, 1, 1, 1)).due("surface 0 1", 0);
        Subject.after(Sentences.shape(0, 0, 0, 0, 0, 1, 1, 1)).due("surface 0 1", 1);
    }

    private static void normal() {
        Sentences.of("SURFACES", "A surface is normal if it matches and does not cross itself.");
        Subject.after("put").due("surface 0 3", 1000);
        Subject.after(Scenes.SPHERE + ", " + Sentences.shape(0, 1, 1)).dueRow("surface 0 #", 1, 0, 2, 1002);
        Subject.after(Scenes.SPHERE + ", " + Sentences.shape(0, 1, 0)).dueRow("surface 0 #", 0, 0, 1, NONE);
        Subject.after(Scenes.SPHERE + ", " + Sentences.shape(0, 0, 0, 0, 0, 0, 1, 1)).dueRow("surface 0 #", 1, 1, 2, NONE);
        Subject.after(Scenes.SPHERE + ", " + Sentences.shape(0, 1, 0, 0, 0, 1, 1)).dueRow("surface 0 #", 0, 1, 3, NONE);
    }

    private static void characteristic() {
        Sentences.of("SURFACES", "The Euler characteristic of a normal surface is the sum of its weights on all lines (each at its "
            + "first edge), minus the number of arcs on all faces (of two faces that are glued, those on one of them), plus the "
            + "number of all pieces.");
        Subject.after("put").due("surface 0 3", 1000);
        // 20 triangles: 3 edges and 3 faces each; 20 quadrilaterals: 4 edges and 4 faces each.
        Subject.after(Sentences.shape(0, 20, 0, 0, 0, 20)).due("surface 0 3", 1040);
        Subject.after("bodies 3, " + ALL_OF_FIVE_KINDS).due("surface 0 3", 1300);
        // 20 copies of two spheres and of a torus
        Subject.after(Scenes.SPHERE + ", " + Sentences.shape(0, 20, 20, 20, 20, 20)).due("surface 0 3", 1080);
        // Weights 1 on two lines, 2 arcs, 1 piece
        Subject.after(TWISTED + ", " + Sentences.shape(0, 0, 0, 0, 0, 1)).due("surface 0 3", 1001);
        // A reversed line counts whole: weights 2, 1, 1 and 0, 3 arcs, 2 pieces
        Subject.after(TWISTED + ", " + Sentences.shape(0, 1, 1)).due("surface 0 3", 1003);
        Subject.after(MINUS_ONE + ", " + Sentences.shape(0, MINUS_ONE_SHAPE)).due("surface 0 3", 999);
    }

    private static final String TWISTED = "glue 0 0 0 1 1, glue 0 2 0 3 2";
    private static final String PROJECTIVE = "bodies 2, glue 0 2 1 1 5, glue 0 3 1 2 2, glue 1 0 0 1 1, glue 0 0 1 3 5";
    private static final String MINUS_ONE = "bodies 2, glue 0 0 0 2 2, glue 0 1 1 3 3, glue 1 1 1 0 3, glue 0 3 1 2 5";
    private static final int[] MINUS_ONE_SHAPE = {0, 0, 0, 0, 0, 1, 0, 0, 0, 0, 0, 0, 0, 1};
    private static final String ALL_OF_FIVE_KINDS = Sentences.shape(0, 20, 20, 20, 20, 20, 0, 0, 20, 20, 20, 20, 0, 20, 0, 20, 20, 20,
        20, 0, 0, 20);

    private static void components() {
        Sentences.of("SURFACES", "The components of a normal surface are the maximal sets of pieces that are joined to one another, "
            + "directly or by others.");
        Subject.after("put").due("surface 0 4", 0);
        Subject.after(Sentences.shape(0, 0, 0, 0, 1)).due("surface 0 4", 1);
        Subject.after("bodies 3, " + ALL_OF_FIVE_KINDS).due("surface 0 4", 300);
        Subject.after(Scenes.SPHERE + ", " + Sentences.shape(0, 20, 20, 20, 20, 20)).due("surface 0 4", 60);
        // Parallel one-sided pieces are joined two by two, the first to the last.
        Subject.after(Scenes.LENS + ", " + Sentences.shape(0, 0, 0, 0, 0, 0, 20)).due("surface 0 4", 10);
        Subject.after(Scenes.LENS + ", " + Sentences.shape(0, 0, 0, 0, 0, 0, 19)).due("surface 0 4", 10);
        Subject.after(Scenes.ONE_LINE + ", about 0").due("surface 0 4", 1);
        for (int b = 0; b < 3; b++) {
            componentsIn(b);
        }
        // Two triangles that are joined, and two that are not
        Subject.after("bodies 3, glue 1 0 2 0 0, put, piece 0 1 1 1, piece 0 2 1 1").due("surface 0 4", 1);
        Subject.after("bodies 3, glue 1 0 2 0 0, put, piece 0 1 0 1, piece 0 2 0 1").due("surface 0 4", 2);
        Subject.after("bodies 3, glue 1 0 2 0 0, put, piece 0 1 4 1, piece 0 2 1 1").due("surface 0 4", 1);
    }

    /** Links and quadrilaterals in one of three tetrahedra, whose arcs lie behind one another at the corners. */
    private static void componentsIn(int b) {
        String sphere = "bodies 3, glue b 0 b 1 0, glue b 2 b 3 0".replace("b ", b + " ");
        String lens = "bodies 3, glue b 0 b 1 3, glue b 2 b 3 3".replace("b ", b + " ");
        Subject.after(sphere + ", " + Sentences.shape(0, shifted(b, 1, 1, 1, 1, 1))).dueRow("surface 0 #", 1, 0, 5, 1004, 3, 0, 3, 0, 1);
        Subject.after(lens + ", " + Sentences.shape(0, shifted(b, 1, 1, 1, 1, 0, 2))).dueRow("surface 0 #", 1, 0, 6, 1002, 2, 0, 2, 0, 1);
        Subject.after(lens + ", " + Sentences.shape(0, shifted(b, 2, 2, 2, 2, 0, 1))).dueRow("surface 0 #", 1, 0, 9, 1004, 3, 0, 2, 0, 1);
        Subject.after(lens + ", " + Sentences.shape(0, shifted(b, 20, 20, 20, 20, 0, 20)))
            .dueRow("surface 0 #", 1, 0, 100, 1040, 30, 0, 30, 0, NONE);
    }

    private static int[] shifted(int b, int... numbers) {
        int[] row = new int[7 * b + numbers.length];
        System.arraycopy(numbers, 0, row, 7 * b, numbers.length);
        return row;
    }

    private static void boundaryNumber() {
        Sentences.of("SURFACES", "Its boundary number is the number of arcs on free faces.");
        Subject.after("put").due("surface 0 5", 0);
        Subject.after(Sentences.shape(0, 1)).due("surface 0 5", 3);
        Subject.after(Sentences.shape(0, 0, 0, 0, 0, 0, 0, 20)).due("surface 0 5", 80);
        Subject.after("bodies 3, " + ALL_OF_FIVE_KINDS).due("surface 0 5", 960);
        Subject.after(Scenes.SPHERE + ", " + Sentences.shape(0, 20, 20, 20, 20, 20)).due("surface 0 5", 0);
        for (int k = 0; k < 21; k++) {
            Subject.after("bodies 3, put, piece 0 " + k / 7 + " " + k % 7 + " 1").due("surface 0 5", k % 7 < 4 ? 3 : 4);
        }
        // The triangle at corner 0 has one arc on a free face, face 1.
        Subject.after("glue 0 2 0 3 0, about 0").dueRow("surface 0 #", 1, 0, 1, 1001, 1, 1, 1, 1, 0);
        // Faces 2 and 3 are free: each has an arc of both triangles.
        Subject.after("glue 0 0 0 1 0, " + Sentences.shape(0, 1, 1)).due("surface 0 5", 4);
    }

    private static void twoSided() {
        Sentences.of("SURFACES", "A component is two-sided if for none of its pieces both sides are connected, directly or by others.");
        Subject.after("put").due("surface 0 6", 0);
        Subject.after(Sentences.shape(0, 1, 1, 1, 1, 1)).due("surface 0 6", 5);
        Subject.after("bodies 3, " + ALL_OF_FIVE_KINDS).due("surface 0 6", 300);
        int[] due = {0, 1, 1, 2, 2};
        for (int n = 1; n <= 5; n++) {
            Subject.after(Scenes.LENS + ", " + Sentences.shape(0, 0, 0, 0, 0, 0, n)).due("surface 0 6", due[n - 1]);
        }
        Subject.after(Scenes.LENS + ", " + Sentences.shape(0, 0, 0, 0, 0, 0, 19)).due("surface 0 6", 9);
        Subject.after(Scenes.LENS + ", " + Sentences.shape(0, 0, 0, 0, 0, 0, 20)).due("surface 0 6", 10);
        // Not directly: all gluings are between the two tetrahedra, so each piece meets itself only by way of the other.
        Subject.after(PROJECTIVE + ", " + Sentences.shape(0, 0, 0, 0, 0, 0, 0, 1, 0, 0, 0, 0, 0, 0, 1)).dueRow("surface 0 #",
            1, 0, 2, 1001, 1, 0, 0);
    }

    private static void types() {
        Sentences.of("SURFACES", "The type of a surface is: NONE if it is not normal; 0 if the number of its components is not 1; "
            + "1 if its boundary number is above 0; otherwise, by its Euler characteristic, 2 if this is 2, 3 if it is 1, 4 if it "
            + "is 0 and the component is two-sided, 5 if it is 0 and the component is not two-sided, and 6 in all other cases.");
        type(Scenes.SPHERE, NONE, 1);
        type("", NONE, 0, 0, 0, 0, 1, 1);
        type("", 0);
        type("", 0, 1, 1);
        type(Scenes.SPHERE, 0, 2, 2);
        type("", 1, 1);
        type("glue 0 0 0 1 0", 1, 1, 1);
        type(Scenes.SPHERE, 2, 1, 1);
        type(TWISTED, 3, 0, 0, 0, 0, 1);
        // A projective plane, which is not two-sided, in a manifold
        type(PROJECTIVE, 3, 0, 0, 0, 0, 0, 0, 1, 0, 0, 0, 0, 0, 0, 1);
        type(Scenes.SPHERE, 4, 0, 0, 0, 0, 1);
        type(Scenes.LENS, 4, 0, 0, 0, 0, 0, 2);
        type(Scenes.LENS, 5, 0, 0, 0, 0, 0, 1);
        type(TWISTED, 6, 1, 1);
        type(MINUS_ONE, 6, MINUS_ONE_SHAPE);
        // The double of the same: characteristic -2, and two-sided
        type(MINUS_ONE, 6, 0, 0, 0, 0, 0, 2, 0, 0, 0, 0, 0, 0, 0, 2);
    }

    private static void type(String rooms, int want, int... numbers) {
        Subject.after((rooms.isEmpty() ? "" : rooms + ", ") + Sentences.shape(0, numbers)).due("surface 0 7", want);
    }

    private static void links() {
        Sentences.of("SURFACES", "The link of a vertex is the surface with one triangle of kind v for each corner v that belongs to "
            + "the vertex; it is normal.");
        Subject one = Subject.after("about 3");
        one.dueRow("pieces 0 0 #", 0, 0, 0, 1, 0, 0, 0);
        one.dueRow("surface 0 #", 1, 0, 1, 1001, 1, 3, 1, 1, 0);
        Subject all = Subject.after(Scenes.ONE_LINE + ", about 0");
        for (int b = 0; b < 3; b++) {
            all.dueRow("pieces 0 " + b + " #", 1, 1, 1, 1, 0, 0, 0);
        }
        // One line with the weight 2, 18 arcs, 12 pieces; the sides are those towards the corners and away from them.
        all.dueRow("surface 0 #", 1, 0, 12, 996, 1, 0, 1, 6, 0);
    }

    private static void goodVertices() {
        Sentences.of("SURFACES", "A vertex is good if its link has one component, and the Euler characteristic 2 if its boundary "
            + "number is 0, or 1 if this is above 0.");
        // Without a boundary: 2 is good; 3, 1 and 0 are not.
        Subject.after(Scenes.SPHERE).due("told 5", 2);
        Subject.after(TWISTED).due("told 5", 0);
        goodAbout("bodies 2, glue 0 3 0 2 1, glue 0 0 1 2 3, glue 1 0 1 1 0, glue 0 1 1 3 5", 0, 1001, 0);
        goodAbout(Scenes.GIESEKING, 0, 1000, 0);
        // With a boundary: 1 is good; 2 and 0 are not.
        new Subject().due("told 5", 4);
        goodAbout("glue 0 2 0 3 0", 0, 1001, 3);
        goodAbout("glue 0 0 0 1 1", 1, 1002, 1);
        goodAbout("glue 0 2 0 3 1", 0, 1000, 1);
    }

    /** How many vertices are good where the link of one has a certain characteristic. */
    private static void goodAbout(String rooms, int vertex, int characteristic, int good) {
        Subject x = Subject.after(rooms + ", about " + vertex);
        x.due("surface 0 3", characteristic);
        x.due("surface 0 4", 1);
        x.due("told 5", good);
    }

    private static void manifold() {
        Sentences.of("SURFACES", "The whole is a manifold if all vertices are good and no line is reversed.");
        rooms("", 4, 4, 0, 1);
        rooms("bodies 3", 12, 12, 0, 1);
        rooms(Scenes.SPHERE, 2, 2, 0, 1);
        rooms(Scenes.LENS, 1, 1, 0, 1);
        // All vertices are good, but a line is reversed; no line is reversed, but a vertex is not good; and neither.
        rooms("glue 0 0 0 1 0, glue 0 2 0 3 2", 2, 2, 1, 0);
        rooms(Scenes.GIESEKING, 1, 0, 0, 0);
        rooms("glue 0 2 0 3 1", 2, 1, 0, 0);
        rooms(TWISTED, 2, 0, 2, 0);
    }

    private static void rooms(String run, int vertices, int good, int reversed, int manifold) {
        Subject x = Subject.after(run);
        x.due("told 2", vertices);
        x.due("told 5", good);
        x.due("told 4", reversed);
        x.due("told 6", manifold);
    }

    private static void splitting() {
        Sentences.of("SURFACES", "A normal surface splits if it is the sum of two other ones, each with at least one piece, which "
            + "both match (their numbers of pieces are added).");
        splits("", 0);
        splits("", 0, 1);
        splits("", 1, 2);
        splits("", 1, 1, 0, 0, 1);
        splits("", 1, 0, 0, 0, 0, 0, 0, 2);
        splits(Scenes.SPHERE, 0, 1, 1);
        splits(Scenes.SPHERE, 1, 2, 2);
        splits(Scenes.SPHERE, 1, 1, 1, 1, 1);
        splits(Scenes.LENS, 0, 0, 0, 0, 0, 0, 1);
        splits(Scenes.LENS, 1, 0, 0, 0, 0, 0, 2);
        // Here the last three numbers must be equal and the first twice as large: the double splits into halves alone.
        String halves = "bodies 2, glue 1 3 0 0 5, glue 1 0 0 3 5, glue 1 1 1 2 1, glue 0 1 0 2 0";
        splits(halves, 0, 2, 0, 0, 1, 0, 0, 0, 0, 0, 0, 1, 0, 0, 1);
        splits(halves, 1, 4, 0, 0, 2, 0, 0, 0, 0, 0, 0, 2, 0, 0, 2);
        splits(halves, 1, 6, 0, 0, 3, 0, 0, 0, 0, 0, 0, 3, 0, 0, 3);
        // Asked one after the other, and again
        Subject x = Subject.after(Scenes.SPHERE + ", " + Sentences.shape(0, 1, 1) + ", " + Sentences.shape(1, 2, 2, 0, 0, 1) + ", "
            + Sentences.shape(2, 0, 0, 1, 1) + ", " + Sentences.shape(3, 0, 0, 0, 0, 1) + ", put");
        for (int i = 0; i < 4; i++) {
            x.dueRow("surface # 8", 0, 1, 0, 0, 0);
            x.due("surface 1 8", 1);
        }
    }

    private static void splits(String rooms, int want, int... numbers) {
        Subject.after((rooms.isEmpty() ? "" : rooms + ", ") + Sentences.shape(0, numbers)).due("surface 0 8", want);
    }

    /** Two surfaces in two tetrahedra; the second has pieces of the first and the last kind. */
    private static final String TWO = "bodies 2, put, put, piece 1 0 0 7, piece 1 1 6 20";

    private static void piecesUnknown() {
        Sentences.of(6, "UNKNOWN if there is no such surface or tetrahedron");
        Sentences.refused("", "pieces 0 0 0", UNKNOWN);
        Sentences.refused("", "pieces -1 0 0", UNKNOWN);
        Sentences.borders("put", "pieces # 0 0", UNKNOWN, 0, 0);
        Sentences.borders(TWO, "pieces # 0 0", UNKNOWN, 0, 0, 7);
        Sentences.borders(Scenes.SIX, "pieces # 0 0", UNKNOWN, 0, 0, 0, 0, 0, 0, 0);
        Sentences.borders("put, piece 0 0 2 9", "pieces 0 # 2", UNKNOWN, 0, 9);
        Sentences.borders(TWO, "pieces 1 # 6", UNKNOWN, 0, 0, 20);
        Sentences.borders(Scenes.RICH, "pieces 4 # 6", UNKNOWN, 0, 0, 0, 20);
        Sentences.borders(Scenes.RICH, "pieces # 2 6", UNKNOWN, 0, 0, 0, 0, 0, 20);
        Subject.after("put, put, take 0").dueRow("pieces # 0 0", 0, UNKNOWN);
        Subject.after("put, glue 0 0 0 1 0").due("pieces 0 0 0", UNKNOWN);
    }

    private static void piecesOutside() {
        Sentences.of(6, "OUTSIDE if kind is out of range");
        Sentences.borders(TWO, "pieces 1 0 #", OUTSIDE, 0, 7, 0, 0, 0, 0, 0, 0);
        Sentences.borders(TWO, "pieces 1 1 #", OUTSIDE, 0, 0, 0, 0, 0, 0, 0, 20);
        Sentences.borders(Scenes.RICH, "pieces 0 0 #", OUTSIDE, 0, 0, 0, 0, 0, 2, 0, 0);
    }

    private static void surfaceNotNormal() {
        Sentences.of(7, "(3 to 6: NONE if it is not normal)");
        String[] notNormal = {Scenes.SPHERE + ", " + Sentences.shape(0, 1, 0), Sentences.shape(0, 0, 0, 0, 0, 1, 1, 0),
            Scenes.SPHERE + ", " + Sentences.shape(0, 1, 0, 0, 0, 1, 1), TWISTED + ", " + Sentences.shape(0, 0, 0, 0, 0, 20, 0, 20)};
        int[][] due = {{0, 0, 1}, {1, 1, 2}, {0, 1, 3}, {1, 1, 40}};
        for (int i = 0; i < notNormal.length; i++) {
            Subject.after(notNormal[i]).dueRow("surface 0 #", due[i][0], due[i][1], due[i][2], NONE, NONE, NONE, NONE, NONE, NONE);
        }
        Subject.after("put").dueRow("surface 0 #", 1, 0, 0, 1000, 0, 0, 0, 0, 0);
        Subject.after(Sentences.shape(0, 0, 0, 0, 0, 1)).dueRow("surface 0 #", 1, 0, 1, 1001, 1, 4, 1, 1, 0);
    }

    private static void surfaceSplitLimit() {
        Sentences.of(7, "8 whether it splits (1 or 0; NONE if it is not normal, or if the product of all its numbers of pieces, each "
            + "increased by 1, is above 6000)");
        // 19 * 21 * 15 = 5985, 20 * 20 * 15 = 6000, 11 * 13 * 14 * 3 = 6006: no product of numbers up to 21 lies between.
        splits("", 1, 18, 20, 14);
        splits("", 1, 19, 19, 14);
        splits("", NONE, 10, 12, 13, 2);
        splits("", NONE, 19, 19, 14, 1);
        splits("", NONE, 19, 19, 14, 0, 1);
        splits("", NONE, 20, 20, 20, 20, 20);
        splits("bodies 3", 1, 0, 0, 0, 0, 0, 0, 19, 0, 0, 0, 19, 0, 0, 0, 14);
        splits("bodies 3", NONE, 0, 0, 0, 0, 0, 0, 19, 0, 0, 0, 19, 0, 0, 0, 14, 0, 0, 0, 0, 0, 1);
        Subject.after("bodies 3, " + ALL_OF_FIVE_KINDS).due("surface 0 8", NONE);
        // 2 to the 12th possible parts, and 3 to the 4th times 2 to the 6th; none of them matches but the first and the last.
        Subject.after(Scenes.ONE_LINE + ", about 0").due("surface 0 8", 0);
        splits("bodies 3, glue 1 3 0 2 0, glue 2 1 2 2 1, glue 0 3 1 1 4, glue 2 3 1 0 4, glue 0 0 0 1 0", 0,
            2, 2, 0, 0, 0, 0, 0, 2, 1, 0, 1, 0, 1, 0, 0, 1, 1, 2, 0, 0, 1);
        // Not normal, with a product below and above the limit
        splits("", NONE, 0, 0, 0, 0, 1, 1);
        splits("", NONE, 20, 20, 20, 0, 1, 1);
        splits(Scenes.SPHERE, NONE, 1);
    }

    private static void surfaceUnknown() {
        Sentences.of(7, "UNKNOWN if there is no such surface");
        Sentences.refused("", "surface 0 0", UNKNOWN);
        Sentences.refused("", "surface -1 8", UNKNOWN);
        Sentences.borders("put", "surface # 0", UNKNOWN, 0, 1);
        Sentences.borders(Scenes.SIX, "surface # 8", UNKNOWN, 0, 0, 0, 0, 0, 0, 0);
        Sentences.borders(Scenes.RICH, "surface # 2", UNKNOWN, 0, 2, 1, 2, 3, 20);
        Subject.after("put, put, take 1").dueRow("surface # 2", 0, UNKNOWN);
    }

    private static void surfaceOutside() {
        Sentences.of(7, "OUTSIDE if what is out of range");
        Sentences.borders("put", "surface 0 #", OUTSIDE, 0, 1, 0, 0, 1000, 0, 0, 0, 0, 0);
        Sentences.borders(Scenes.LENS + ", " + Sentences.shape(0, 0, 0, 0, 0, 0, 1), "surface 0 #", OUTSIDE, 0,
            1, 0, 1, 1000, 1, 0, 0, 5, 0);
        Sentences.borders(Scenes.RICH, "surface 0 #", OUTSIDE, 0, 0, 0, 2, NONE, NONE, NONE, NONE, NONE, NONE);
    }

    private static void weightUnknown() {
        Sentences.of(8, "UNKNOWN if there is no such surface or edge.");
        Sentences.refused("", "weight 0 0 0", UNKNOWN);
        Sentences.borders(TWO, "weight # 1 0", UNKNOWN, 0, 0, 20);
        Sentences.borders(TWO, "weight 1 # 0", UNKNOWN, 0, 7, 20);
        Sentences.borders(TWO, "weight 1 1 #", UNKNOWN, 0, 20, 20, 0, 0, 20, 20);
        Sentences.borders(Sentences.shape(0, 1, 2, 4, 8, 3, 5, 9), "weight 0 0 #", UNKNOWN, 0, 17, 17, 17, 14, 22, 26);
        Sentences.borders(Sentences.shape(0, 20, 20, 20, 20, 20, 20, 20), "weight 0 0 #", UNKNOWN, 0, 80, 80, 80, 80, 80, 80);
        Sentences.borders(Scenes.SIX, "weight # 0 5", UNKNOWN, 0, 0, 0, 0, 0, 0, 0);
        Sentences.borders(Scenes.RICH, "weight 4 # 5", UNKNOWN, 0, 0, 0, 20);
    }

    private static void arcsUnknown() {
        Sentences.of(9, "UNKNOWN if there is no such surface or face, or the face does not contain this corner.");
        Sentences.refused("", "arcs 0 0 0 1", UNKNOWN);
        Sentences.borders(TWO, "arcs # 1 3 0", UNKNOWN, 0, 0, 20);
        Sentences.borders(TWO, "arcs 1 # 3 0", UNKNOWN, 0, 7, 20);
        String some = Sentences.shape(0, 1, 2, 4, 8, 3, 5, 9);
        int[][] due = {{UNKNOWN, 5, 9, 17}, {4, UNKNOWN, 13, 13}, {6, 11, UNKNOWN, 11}, {10, 7, 7, UNKNOWN}};
        for (int f = 0; f < 4; f++) {
            Sentences.borders(some, "arcs 0 0 " + f + " #", UNKNOWN, 0, due[f]);
            Sentences.borders(some, "arcs 0 0 # " + f, UNKNOWN, 0, due[0][f], due[1][f], due[2][f], due[3][f]);
            Sentences.refused(some, "arcs 0 0 " + f + " " + f, UNKNOWN);
        }
        Sentences.borders(Scenes.SIX, "arcs # 0 3 2", UNKNOWN, 0, 0, 0, 0, 0, 0, 0);
        Subject.after(Sentences.shape(0, 20, 20, 20, 20, 20, 20, 20)).due("arcs 0 0 3 2", 40);
        Sentences.borders(Scenes.RICH, "arcs 4 # 3 0", UNKNOWN, 0, 0, 0, 20);
    }
}
