/** Boundary cases of the tetrahedra and their gluings, and of promises 1 to 5. */
final class BoundaryRooms {
    private static final int NONE = Sentences.NONE, UNKNOWN = Sentences.UNKNOWN, OUTSIDE = Sentences.OUTSIDE, NOT = Sentences.NOT;

    private BoundaryRooms() {
    }

    static void all() {
        newObject();
        numberOfTetrahedra();
        facesLackOneCorner();
        freeAtFirst();
        gluedToOne();
        sixWays();
        bySeveralGluings();
        numberedByFirsts();
        degrees();
        reversedLines();
        toldOutside();
        toldFirstWrong();
        toldSteps();
        toldWhole();
        wallNone();
        wallUnknown();
        wallOutside();
        cornerNone();
        cornerUnknown();
        cornerOutside();
        edgeUnknown();
        edgeOutside();
    }

    private static void newObject() {
        Sentences.of(1, "Creates one tetrahedron with free faces, without surfaces, entries of the book and images.");
        Subject x = new Subject();
        x.dueRow("told #", 1, 4, 4, 6, 0, 4, 1, 0, 101, 0, NONE, 0);
        x.dueRow("wall 0 # 0", NONE, NONE, NONE, NONE, UNKNOWN);
        x.dueRow("wall # 0 0", NONE, UNKNOWN);
        x.due("pieces 0 0 0", UNKNOWN);
        x.due("surface 0 0", UNKNOWN);
        x.due("weight 0 0 0", UNKNOWN);
        x.due("arcs 0 0 0 1", UNKNOWN);
        x.dueRow("goBack #", NOT, NOT);
        x.due("undo 1", NOT);
        x.due("tear", 0);
        x.due("seed 0", 0);
        Subject.after(Scenes.RICH);
        new Subject().dueRow("told #", 1, 4, 4, 6, 0, 4, 1, 0, 101, 0, NONE, 0);
    }

    private static void numberOfTetrahedra() {
        Sentences.of("TETRAHEDRA", "There are B tetrahedra, 0 to B - 1, with B from 1 to 3; B is 1 at first.");
        new Subject().due("told 0", 1);
        for (int many = 1; many <= 3; many++) {
            Subject x = Subject.after("bodies " + many);
            x.due("told 0", many);
            x.due("corner " + (many - 1) + " 3 0", 4 * many - 1);
            x.due("edge " + (many - 1) + " 5 0", 6 * many - 1);
            x.due("wall " + (many - 1) + " 3 0", NONE);
            x.due("corner " + many + " 0 0", UNKNOWN);
            x.due("edge " + many + " 0 0", UNKNOWN);
            x.due("wall " + many + " 0 0", UNKNOWN);
        }
    }

    private static void facesLackOneCorner() {
        Sentences.of("TETRAHEDRA", "Each has the corners 0 to 3 and the faces 0 to 3, where face f contains all corners except f.");
        Subject x = Subject.after("bodies 2");
        for (int f = 0; f < 4; f++) {
            x.call("glue 0 " + f + " 1 " + f + " 0");
            for (int v = 0; v < 4; v++) {
                x.due("corner 0 " + v + " " + (1 + f), v == f ? NONE : 4 + v);
            }
        }
    }

    private static void freeAtFirst() {
        Sentences.of("TETRAHEDRA", "A face that is not glued is free; all are free at first.");
        Subject x = Subject.after("bodies 3");
        x.due("told 1", 12);
        for (int b = 0; b < 3; b++) {
            x.dueRow("wall " + b + " # 0", NONE, NONE, NONE, NONE);
        }
        new Subject().due("told 1", 4);
        Subject.after(Scenes.SPHERE).due("told 1", 0);
        Subject.after("bodies 3, glue 0 0 2 3 0").due("told 1", 10);
    }

    private static void gluedToOne() {
        Sentences.of("TETRAHEDRA", "A face can be glued to another face, of the same tetrahedron or of another one; "
            + "each face is glued to at most one.");
        new Subject().due("glue 0 0 0 3 0", 2);
        Subject.after("bodies 2").due("glue 0 0 1 0 0", 6);
        Sentences.refused("bodies 2, glue 0 0 1 0 0", "glue 0 0 1 1 0", NOT);
        Sentences.refused("bodies 2, glue 0 0 1 0 0", "glue 1 0 1 1 0", NOT);
        Sentences.refused("bodies 2, glue 0 0 1 0 0", "glue 1 0 0 0 0", NOT);
    }

    private static void sixWays() {
        Sentences.of("TETRAHEDRA", "the corners of the first face, in ascending order, are glued to p, q, r by way 0; "
            + "p, r, q by way 1; q, p, r by way 2; q, r, p by way 3; r, p, q by way 4; r, q, p by way 5.");
        // Face 2 (corners 0, 1, 3) to face 1 of the next tetrahedron (corners 0, 2, 3, which are 4, 6, 7).
        int[][] goes = {{4, 6, 7}, {4, 7, 6}, {6, 4, 7}, {6, 7, 4}, {7, 4, 6}, {7, 6, 4}};
        for (int way = 0; way < 6; way++) {
            Subject x = Subject.after("bodies 2, glue 0 2 1 1 " + way);
            x.dueRow("corner 0 # 3", goes[way][0], goes[way][1], NONE, goes[way][2]);
            x.due("corner 1 " + (goes[way][0] - 4) + " 2", 0);
            x.due("corner 1 " + (goes[way][1] - 4) + " 2", 1);
            x.due("corner 1 " + (goes[way][2] - 4) + " 2", 3);
        }
    }

    /** Corners 0, 1, 2 are glued from tetrahedron 0 to 1, and corners 0, 1, 3 from 1 to 2. */
    private static final String CHAIN = "bodies 3, glue 0 3 1 3 0, glue 1 2 2 2 0";

    private static void bySeveralGluings() {
        Sentences.of("TETRAHEDRA", "Corners of tetrahedra that are glued to one another, directly or by several gluings, form a "
            + "vertex; edges likewise form a line, where an edge is glued to another one if its corners are.");
        Subject x = Subject.after(CHAIN);
        x.dueRow("corner # 0 0", 0, 0, 0);
        x.dueRow("corner # 1 0", 1, 1, 1);
        x.dueRow("edge # 0 0", 0, 0, 0);
        x.due("told 2", 6);
        x.due("told 3", 12);
        Subject alone = Subject.after("bodies 3");
        alone.due("told 2", 12);
        alone.due("told 3", 18);
        Subject one = Subject.after(Scenes.ONE_LINE);
        one.due("told 2", 1);
        one.due("told 3", 1);
    }

    private static void numberedByFirsts() {
        Sentences.of("TETRAHEDRA", "Vertices are numbered from 0 in the order of their first corners (by tetrahedra, then by "
            + "corners), lines in the order of their first edges.");
        Subject x = Subject.after(CHAIN);
        x.dueRow("corner 0 # 0", 0, 1, 2, 3);
        x.dueRow("corner 1 # 0", 0, 1, 2, 4);
        x.dueRow("corner 2 # 0", 0, 1, 5, 4);
        x.dueRow("edge 0 # 0", 0, 1, 2, 3, 4, 5);
        x.dueRow("edge 1 # 0", 0, 1, 6, 3, 7, 8);
        x.dueRow("edge 2 # 0", 0, 9, 6, 10, 7, 11);
    }

    private static void degrees() {
        Sentences.of("TETRAHEDRA", "The degree of a line is the number of edges that form it.");
        new Subject().dueRow("edge 0 # 1", 1, 1, 1, 1, 1, 1);
        Subject.after(Scenes.SPHERE).dueRow("edge 0 # 1", 1, 4, 4, 4, 4, 1);
        Subject.after(Scenes.GIESEKING).dueRow("edge 0 # 1", 6, 6, 6, 6, 6, 6);
        Subject.after(CHAIN).dueRow("edge 1 # 1", 3, 2, 2, 2, 2, 1);
        Subject all = Subject.after(Scenes.ONE_LINE);
        all.due("edge 0 0 1", 18);
        all.due("edge 2 5 1", 18);
    }

    private static void reversedLines() {
        Sentences.of("TETRAHEDRA", "A line is reversed if an edge of it is glued, by some gluings, to itself with its direction "
            + "reversed.");
        // Face 2 to face 3 by way 2 takes corner 0 to 1 and 1 to 0; by way 0 it leaves both.
        Subject one = Subject.after("glue 0 2 0 3 2");
        one.dueRow("edge 0 # 2", 1, 0, 0, 0, 0, 0);
        one.due("told 4", 1);
        Subject.after("glue 0 2 0 3 0").dueRow("edge 0 # 2", 0, 0, 0, 0, 0, 0);
        // By two gluings: to the other tetrahedron as it is, and back with the direction reversed.
        Subject two = Subject.after("bodies 2, glue 0 2 1 2 0, glue 0 3 1 3 2");
        two.dueRow("edge 0 # 2", 1, 0, 0, 0, 0, 0);
        two.dueRow("edge 1 # 2", 1, 0, 0, 0, 0, 0);
        two.due("told 4", 1);
        Subject.after("bodies 2, glue 0 2 1 2 0, glue 0 3 1 3 0").due("told 4", 0);
        // To and fro, both with the direction reversed, is no reversal.
        Subject.after("bodies 2, glue 0 2 1 2 2, glue 0 3 1 3 2").due("told 4", 0);
        // The edges of one line are all reversed if one of them is.
        Subject.after(Scenes.ONE_LINE).dueRow("edge 2 # 2", 1, 1, 1, 1, 1, 1);
        reversedByOneGluing();
    }

    /** The place in the second face of each corner of the first one. */
    private static final int[][] WAYS = {{0, 1, 2}, {0, 2, 1}, {1, 0, 2}, {1, 2, 0}, {2, 0, 1}, {2, 1, 0}};

    private static void reversedByOneGluing() {
        // One gluing within a tetrahedron can reverse only the edge that both faces have, by changing its corners.
        for (int face = 0; face < 12; face++) {
            for (int other = face + 1; other < 12; other++) {
                for (int way = 0; way < 6; way++) {
                    Subject x = Subject.after("bodies 3, glue " + face / 4 + " " + face % 4 + " " + other / 4 + " " + other % 4 + " " + way);
                    boolean one = face / 4 == other / 4 && changesCommonEdge(face % 4, other % 4, way);
                    x.due("told 4", one ? 1 : 0);
                    x.dueRow("edge " + (face / 4 + 1) % 3 + " # 2", 0, 0, 0, 0, 0, 0);
                    if (face / 4 != other / 4) {
                        x.due("told 2", 9);
                        x.due("told 3", 15);
                    } else {
                        x.dueRow("edge " + (face / 4 + 1) % 3 + " # 1", 1, 1, 1, 1, 1, 1);
                        x.dueRow("edge " + (face / 4 + 2) % 3 + " # 1", 1, 1, 1, 1, 1, 1);
                    }
                }
            }
        }
    }

    private static boolean changesCommonEdge(int f, int g, int way) {
        int p = -1;
        int q = -1;
        for (int v = 0; v < 4; v++) {
            if (v != f && v != g) {
                q = p < 0 ? q : v;
                p = p < 0 ? v : p;
            }
        }
        return WAYS[way][placeIn(f, p)] == placeIn(g, q) && WAYS[way][placeIn(f, q)] == placeIn(g, p);
    }

    /** How many corners of the face are below this one. */
    private static int placeIn(int face, int v) {
        return v > face ? v - 1 : v;
    }

    private static void toldOutside() {
        Sentences.of(2, "OUTSIDE if what is out of range");
        Sentences.borders("", "told #", OUTSIDE, 0, 1, 4, 4, 6, 0, 4, 1, 0, 101, 0, NONE, 0);
        Sentences.borders(Scenes.SPHERE, "told #", OUTSIDE, 0, 1, 0, 2, 3, 0, 2, 1, 0, 100, 0, NONE, 2);
        Sentences.borders(Scenes.ONE_LINE, "told #", OUTSIDE, 0, 3, 0, 1, 1, 1, 0, 0, 0, 103, 0, NONE, 7);
    }

    private static void toldFirstWrong() {
        Sentences.of(2, "10 the index of the first wrong entry, from 0 (NONE if there is none)");
        new Subject().due("told 10", NONE);
        Subject.after("put").due("told 10", NONE);
        Subject.after("put, write 0 0").due("told 10", NONE);
        Subject.after("put, write 0 1").due("told 10", 0);
        Subject.after(Scenes.TWENTY_ENTRIES).due("told 10", NONE);
        Subject.after("put, " + Sentences.times(19, "write 0 0") + ", write 0 1").due("told 10", 19);
        Subject.after("put, " + Sentences.times(20, "write 0 1")).due("told 10", 0);
        Subject.after("put, write 0 0, write 0 1, write 0 0, write 0 1").due("told 10", 1);
        Subject.after("put, write 0 1, tear").due("told 10", NONE);
    }

    private static void toldSteps() {
        Sentences.of(2, "11 steps that can be undone");
        new Subject().due("told 11", 0);
        for (int n = 1; n <= 18; n++) {
            Subject.after(Sentences.times(n, "bodies 1")).due("told 11", Math.min(n, 16));
        }
        Subject.after(Scenes.SIXTEEN_STEPS + ", undo 16").due("told 11", 0);
        Subject.after(Scenes.SIXTEEN_STEPS + ", undo 15").due("told 11", 1);
    }

    private static void toldWhole() {
        Sentences.of(2, "8 the number of vertices, minus lines, plus faces (of two that are glued, one), minus tetrahedra, plus 100");
        new Subject().due("told 8", 101);
        Subject.after("bodies 3").due("told 8", 103);
        Subject.after("glue 0 0 0 1 0").due("told 8", 101);
        // 2 - 4 + 2 - 1
        Subject.after("glue 0 0 0 1 1, glue 0 2 0 3 2").due("told 8", 99);
        // 1 - 1 + 6 - 3
        Subject.after(Scenes.ONE_LINE).due("told 8", 103);
    }

    private static void wallNone() {
        Sentences.of(3, "NONE if the face is free");
        Subject x = Subject.after("bodies 2, glue 0 3 1 0 3");
        x.dueRow("wall 0 3 #", 1, 0, 3);
        x.dueRow("wall 1 0 #", 0, 3, 4);
        x.dueRow("wall 0 0 #", NONE, NONE, NONE);
        x.dueRow("wall 1 3 #", NONE, NONE, NONE);
        x.call("free 1 0");
        x.dueRow("wall 0 3 #", NONE, NONE, NONE);
        x.dueRow("wall 1 0 #", NONE, NONE, NONE);
    }

    private static void wallUnknown() {
        Sentences.of(3, "UNKNOWN if there is no such face");
        Sentences.borders("", "wall # 0 0", UNKNOWN, 0, NONE);
        Sentences.borders("bodies 2, glue 0 3 1 0 0", "wall # 3 0", UNKNOWN, 0, 1, NONE);
        Sentences.borders("bodies 3, glue 1 0 2 0 0", "wall # 0 0", UNKNOWN, 0, NONE, 2, 1);
        Sentences.borders("glue 0 3 0 0 0", "wall 0 # 1", UNKNOWN, 0, 3, NONE, NONE, 0);
        Sentences.borders(Scenes.RICH, "wall 2 # 1", UNKNOWN, 0, 1, 0, NONE, NONE);
        Sentences.borders(Scenes.RICH, "wall # 1 0", UNKNOWN, 0, NONE, 0, 2);
    }

    private static void wallOutside() {
        Sentences.of(3, "OUTSIDE if what is out of range");
        Sentences.borders("", "wall 0 0 #", OUTSIDE, 0, NONE, NONE, NONE);
        Sentences.borders("bodies 2, glue 1 2 0 3 4", "wall 0 3 #", OUTSIDE, 0, 1, 2, 3);
        Sentences.borders(Scenes.RICH, "wall 0 0 #", OUTSIDE, 0, 1, 1, 3);
        Sentences.borders(Scenes.RICH, "wall 0 1 #", OUTSIDE, 0, NONE, NONE, NONE);
    }

    private static void cornerNone() {
        Sentences.of(4, "NONE for what above 0 if the corner does not belong to face f or this face is free");
        Subject x = Subject.after("bodies 2, glue 0 3 1 0 0");
        x.dueRow("corner 0 3 #", 3, NONE, NONE, NONE, NONE);
        x.dueRow("corner 0 0 #", 0, NONE, NONE, NONE, 5);
        x.dueRow("corner 1 0 #", 4, NONE, NONE, NONE, NONE);
        x.dueRow("corner 1 3 #", 2, 2, NONE, NONE, NONE);
        x.call("free 0 3");
        x.dueRow("corner 0 0 #", 0, NONE, NONE, NONE, NONE);
        x.dueRow("corner 1 3 #", 7, NONE, NONE, NONE, NONE);
    }

    private static void cornerUnknown() {
        Sentences.of(4, "UNKNOWN if there is no such corner");
        Sentences.borders("", "corner # 3 0", UNKNOWN, 0, 3);
        Sentences.borders("bodies 2", "corner # 3 0", UNKNOWN, 0, 3, 7);
        Sentences.borders("bodies 3", "corner # 3 0", UNKNOWN, 0, 3, 7, 11);
        Sentences.borders("", "corner 0 # 0", UNKNOWN, 0, 0, 1, 2, 3);
        Sentences.borders("glue 0 3 0 0 0", "corner 0 # 4", UNKNOWN, 0, 1, 2, 3, NONE);
        Sentences.borders(Scenes.RICH, "corner 2 # 1", UNKNOWN, 0, NONE, 8, 10, 11);
    }

    private static void cornerOutside() {
        Sentences.of(4, "OUTSIDE if what is not 0 to 4");
        Sentences.borders("", "corner 0 0 #", OUTSIDE, 0, 0, NONE, NONE, NONE, NONE);
        Sentences.borders(Scenes.SPHERE, "corner 0 3 #", OUTSIDE, 0, 1, 3, 3, 2, NONE);
        Sentences.borders(Scenes.RICH, "corner 0 3 #", OUTSIDE, 0, 3, 4, NONE, NONE, NONE);
    }

    private static void edgeUnknown() {
        Sentences.of(5, "UNKNOWN if there is no such edge");
        Sentences.borders("", "edge # 5 0", UNKNOWN, 0, 5);
        Sentences.borders("bodies 2", "edge # 5 0", UNKNOWN, 0, 5, 11);
        Sentences.borders("bodies 3", "edge # 5 0", UNKNOWN, 0, 5, 11, 17);
        Sentences.borders(Scenes.SPHERE, "edge 0 # 1", UNKNOWN, 0, 1, 4, 4, 4, 4, 1);
        Sentences.borders(Scenes.RICH, "edge 2 # 1", UNKNOWN, 0, 1, 2, 2, 2, 2, 1);
    }

    private static void edgeOutside() {
        Sentences.of(5, "OUTSIDE if what is out of range");
        Sentences.borders("", "edge 0 5 #", OUTSIDE, 0, 5, 1, 0);
        Sentences.borders(Scenes.ONE_LINE, "edge 2 5 #", OUTSIDE, 0, 0, 18, 1);
        Sentences.borders(Scenes.RICH, "edge 0 0 #", OUTSIDE, 0, 0, 1, 0);
    }
}
