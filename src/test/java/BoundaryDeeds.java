/** Boundary cases of the deeds: promises 10 to 18. */
final class BoundaryDeeds {
    private static final int NONE = Sentences.NONE, UNKNOWN = Sentences.UNKNOWN, OUTSIDE = Sentences.OUTSIDE, NOT = Sentences.NOT;
    private static final int FULL = Sentences.FULL;
    /** Two surfaces in two tetrahedra; the second has pieces of the first and the last kind. */
    private static final String TWO = "bodies 2, put, put, piece 1 0 0 7, piece 1 1 6 20";

    private BoundaryDeeds() {
    }

    static void all() {
        bodiesOutside();
        bodiesEmpties();
        glueUnknown();
        glueOutside();
        glueNot();
        glueCounts();
        freeUnknown();
        freeNot();
        freeBoth();
        putFull();
        putEmpty();
        pieceUnknown();
        pieceOutside();
        aboutUnknown();
        aboutFull();
        addUnknown();
        addFull();
        addNot();
        addSame();
        takeUnknown();
        driftOutside();
        driftSteps();
        driftNothing();
    }

    private static void bodiesOutside() {
        Sentences.of(10, "Returns the previous number; OUTSIDE if many is out of range.");
        Sentences.borders("", "bodies #", OUTSIDE, 1, 1, 1, 1);
        Sentences.borders("bodies 3", "bodies #", OUTSIDE, 1, 3, 3, 3);
        Sentences.borders(Scenes.RICH, "bodies #", OUTSIDE, 1, 3, 3, 3);
    }

    private static void bodiesEmpties() {
        Sentences.of(10, "Sets the number of tetrahedra; all faces are free and there are no surfaces then.");
        for (int many = 1; many <= 3; many++) {
            Subject x = Subject.after(Scenes.RICH + ", bodies " + many);
            x.dueRow("told #", many, 4 * many, 4 * many, 6 * many, 0, 4 * many, 1, 0, 100 + many, 2, 0, 11);
            for (int b = 0; b < many; b++) {
                x.dueRow("wall " + b + " # 0", NONE, NONE, NONE, NONE);
            }
            x.due("wall " + many + " 0 0", UNKNOWN);
        }
        // What a tetrahedron held before it went does not come back with it.
        Subject.after("bodies 3, glue 1 0 2 0 0, bodies 1, bodies 3").due("told 1", 12);
        Subject y = Subject.after("bodies 3, put, piece 0 2 5 9, bodies 1, put");
        y.due("surface 0 2", 0);
        y.due("bodies 3", 1);
        y.due("put", 0);
        y.dueRow("pieces 0 2 #", 0, 0, 0, 0, 0, 0, 0);
    }

    private static void glueUnknown() {
        Sentences.of(11, "UNKNOWN if there is no such face");
        Sentences.borders("", "glue # 0 0 1 0", UNKNOWN, 0, 2);
        Sentences.borders("", "glue 0 0 # 1 0", UNKNOWN, 0, 2);
        Sentences.borders("bodies 2", "glue # 0 1 1 0", UNKNOWN, 0, 6, 6);
        Sentences.borders("bodies 2", "glue 0 # 1 1 0", UNKNOWN, 0, 6, 6, 6, 6);
        Sentences.borders("bodies 2", "glue 0 0 # 1 0", UNKNOWN, 0, 6, 6);
        Sentences.borders("bodies 2", "glue 0 0 1 # 0", UNKNOWN, 0, 6, 6, 6, 6);
        Sentences.borders(Scenes.RICH, "glue # 3 2 2 0", UNKNOWN, 0, 6, 6, 6);
        Sentences.borders(Scenes.RICH, "glue 2 2 # 3 0", UNKNOWN, 0, 6, 6, 6);
    }

    private static void glueOutside() {
        Sentences.of(11, "OUTSIDE if way is out of range");
        Sentences.borders("", "glue 0 0 0 1 #", OUTSIDE, 0, 2, 2, 2, 2, 2, 2);
        Sentences.borders("put", "glue 0 3 0 2 #", OUTSIDE, 0, 2, 2, 2, 2, 2, 2);
        Sentences.borders(Scenes.RICH, "glue 0 1 2 2 #", OUTSIDE, 0, 6, 6, 6, 6, 6, 6);
    }

    private static void glueNot() {
        Sentences.of(11, "NOT if one of them is glued already, or both are the same.");
        String some = "bodies 2, glue 0 0 1 1 0, put";
        String[] refused = {"glue 0 0 0 1 0", "glue 0 1 0 0 0", "glue 1 1 1 2 0", "glue 1 2 1 1 0", "glue 0 0 1 1 0", "glue 1 1 0 0 0",
            "glue 0 2 0 2 0", "glue 1 3 1 3 5", "glue 0 0 0 0 0", "glue 1 1 1 1 0"};
        for (String call : refused) {
            Sentences.refused(some, call, NOT);
        }
        Subject.after(some).due("glue 0 2 1 2 0", 4);
        Subject.after(some).due("glue 0 1 1 0 0", 4);
        Subject.after(some).due("glue 0 2 0 3 0", 4);
        Subject.after("glue 0 0 0 1 0, free 0 0").due("glue 0 0 0 2 0", 2);
        Subject.after("glue 0 0 0 1 0, free 0 0").due("glue 0 1 0 2 0", 2);
        for (int face = 0; face < 16; face++) {
            Sentences.refused(Scenes.SPHERE, "glue 0 " + face / 4 + " 0 " + face % 4 + " 0", NOT);
        }
        Sentences.refused("", "glue 0 0 0 0 0", NOT);
        Sentences.refused(Scenes.RICH, "glue 0 1 1 1 0", NOT);
        Sentences.refused(Scenes.RICH, "glue 2 3 2 3 0", NOT);
    }

    private static void glueCounts() {
        Sentences.of(11, "Returns the number of free faces then");
        Subject x = Subject.after("bodies 3");
        x.due("glue 0 2 1 3 4", 10);
        x.due("glue 1 1 2 2 2", 8);
        x.due("glue 1 0 2 1 5", 6);
        x.due("glue 1 2 0 3 4", 4);
        x.due("glue 0 0 0 1 2", 2);
        x.due("glue 2 3 2 0 3", 0);
        x.due("told 11", 7);
    }

    private static void freeUnknown() {
        Sentences.of(12, "UNKNOWN if there is no such face");
        Sentences.borders(Scenes.SPHERE, "free # 0", UNKNOWN, 0, 2);
        Sentences.borders(Scenes.SPHERE, "free 0 #", UNKNOWN, 0, 2, 2, 2, 2);
        Sentences.borders("bodies 2, glue 0 0 1 0 0", "free # 0", UNKNOWN, 0, 8, 8);
        Sentences.borders(Scenes.ONE_LINE + ", put", "free # 3", UNKNOWN, 0, 2, 2, 2);
        Sentences.borders(Scenes.ONE_LINE + ", put", "free 2 #", UNKNOWN, 0, 2, 2, 2, 2);
    }

    private static void freeNot() {
        Sentences.of(12, "NOT if it is free already.");
        for (int f = 0; f < 4; f++) {
            Sentences.refused("put", "free 0 " + f, NOT);
        }
        Subject.after("glue 0 0 0 1 0").due("free 0 0", 4);
        Subject.after("glue 0 0 0 1 0").due("free 0 1", 4);
        Sentences.refused("glue 0 0 0 1 0, put", "free 0 2", NOT);
        Sentences.refused("glue 0 0 0 1 0, free 0 0", "free 0 0", NOT);
        Sentences.refused("glue 0 0 0 1 0, free 0 0", "free 0 1", NOT);
        Sentences.refused("glue 0 0 0 1 0, free 0 1, put", "free 0 0", NOT);
        Sentences.refused(Scenes.RICH, "free 0 1", NOT);
    }

    private static void freeBoth() {
        Sentences.of(12, "Makes a face free, and so the one to which it is glued.");
        Subject x = Subject.after("bodies 3, glue 0 3 2 0 1, glue 2 3 0 0 4");
        x.due("free 2 0", 10);
        x.due("wall 2 0 0", NONE);
        x.due("wall 0 3 0", NONE);
        x.dueRow("wall 0 0 #", 2, 3, 3);
        x.dueRow("wall 2 3 #", 0, 0, 4);
        x.due("free 0 0", 12);
        x.due("wall 2 3 0", NONE);
        x.due("told 2", 12);
        for (int face = 0; face < 12; face++) {
            for (int other = face + 1; other < 12; other++) {
                leavesNothing(face / 4, face % 4, other / 4, other % 4);
            }
        }
    }

    /** On one object: whatever was asked while two faces were glued, once they are free all is as if they had not been. */
    private static void leavesNothing(int b, int f, int c, int g) {
        Subject x = Subject.after("bodies 3");
        for (int way = 0; way < 6; way++) {
            x.due("glue " + b + " " + f + " " + c + " " + g + " " + way, 10);
            String piece = "piece 0 " + b + " " + (f + 1) % 4 + " 1";
            for (String call : new String[] {"put", piece, "surface 0 0", "surface 0 8", "told 4", "told 5"}) {
                x.call(call);
            }
            x.due("free " + c + " " + g, 12);
            x.dueRow("told #", 3, 12, 12, 18, 0, 12, 1, 0, 103);
            x.due("put", 0);
            x.due(piece, 0);
            x.dueRow("surface 0 #", 1, 0, 1, 1001, 1, 3, 1, 1, 0);
            x.due("take 0", 0);
        }
    }

    private static void putFull() {
        Sentences.of(13, "FULL if there are 6 already.");
        for (int s = 0; s < 6; s++) {
            Subject.after("seed 0" + (s == 0 ? "" : ", " + Sentences.times(s, "put"))).due("put", s);
        }
        Sentences.refused(Scenes.SIX, "put", FULL);
        Subject.after(Scenes.RICH).due("put", 5);
        Sentences.refused(Scenes.RICH + ", put", "put", FULL);
        Subject.after(Scenes.SIX + ", take 0").due("put", 5);
        Subject.after(Scenes.SIX + ", bodies 1").due("put", 0);
    }

    private static void putEmpty() {
        Sentences.of(13, "Adds a surface without pieces.");
        Subject x = Subject.after("put, piece 0 0 0 20, piece 0 0 6 20, take 0, put");
        x.dueRow("pieces 0 0 #", 0, 0, 0, 0, 0, 0, 0);
        x.due("surface 0 2", 0);
        Subject.after("put, piece 0 0 0 1, add 0 0, undo 1, put").due("surface 1 2", 0);
        // The sum that is refused here leaves nothing in the next surface.
        Subject.after("put, piece 0 0 0 20, add 0 0, put").due("surface 1 2", 0);
    }

    private static void pieceUnknown() {
        Sentences.of(14, "UNKNOWN if there is no such surface or tetrahedron");
        Sentences.refused("", "piece 0 0 0 0", UNKNOWN);
        Sentences.borders("put", "piece # 0 0 1", UNKNOWN, 0, 0);
        Sentences.borders(TWO, "piece # 0 0 1", UNKNOWN, 0, 0, 7);
        Sentences.borders(TWO, "piece 1 # 6 0", UNKNOWN, 0, 0, 20);
        Sentences.borders("put", "piece 0 # 0 1", UNKNOWN, 0, 0);
        Sentences.borders(Scenes.SIX, "piece # 0 6 20", UNKNOWN, 0, 0, 0, 0, 0, 0, 0);
        Sentences.borders(Scenes.RICH, "piece # 2 6 1", UNKNOWN, 0, 0, 0, 0, 0, 20);
        Sentences.borders(Scenes.RICH, "piece 4 # 6 1", UNKNOWN, 0, 0, 0, 20);
    }

    private static void pieceOutside() {
        Sentences.of(14, "OUTSIDE if kind or n is out of range.");
        Sentences.borders(TWO, "piece 1 1 # 3", OUTSIDE, 0, 0, 0, 0, 0, 0, 0, 20);
        Sentences.borders(TWO, "piece 1 0 # 0", OUTSIDE, 0, 7, 0, 0, 0, 0, 0, 0);
        int[] before = new int[21];
        java.util.Arrays.fill(before, 20);
        Sentences.borders(TWO, "piece 1 1 6 #", OUTSIDE, 0, before);
        Sentences.borders(Scenes.RICH, "piece 4 2 6 #", OUTSIDE, 0, before);
        Sentences.borders(Scenes.RICH, "piece 0 0 # 20", OUTSIDE, 0, 0, 0, 0, 0, 2, 0, 0);
        for (int kind = 0; kind < 7; kind++) {
            Sentences.refused(TWO, "piece 0 1 " + kind + " 21", OUTSIDE);
            Sentences.refused(TWO, "piece 0 1 " + kind + " -1", OUTSIDE);
            Subject x = Subject.after(TWO + ", piece 0 1 " + kind + " 20");
            x.due("pieces 0 1 " + kind, 20);
            x.due("surface 0 2", 20);
        }
    }

    private static void aboutUnknown() {
        Sentences.of(15, "UNKNOWN if there is no such vertex");
        Sentences.borders("", "about #", UNKNOWN, 0, 0, 0, 0, 0);
        Sentences.borders("bodies 3", "about #", UNKNOWN, 0, 0, 0, 0, 0, 0, 0, 0, 0, 0, 0, 0, 0);
        Sentences.borders(Scenes.SPHERE, "about #", UNKNOWN, 0, 0, 0);
        Sentences.borders(Scenes.ONE_LINE, "about #", UNKNOWN, 0, 0);
        Sentences.borders(Scenes.RICH, "about #", UNKNOWN, 0, 5, 5, 5, 5, 5, 5, 5, 5);
    }

    private static void aboutFull() {
        Sentences.of(15, "FULL if there are 6 surfaces already.");
        Subject.after(Sentences.times(5, "put")).due("about 3", 5);
        Sentences.refused(Scenes.SIX, "about 3", FULL);
        Sentences.refused(Sentences.times(6, "about 1"), "about 0", FULL);
        Sentences.refused(Scenes.RICH + ", put", "about 7", FULL);
        Subject.after(Scenes.SIX + ", take 5").due("about 0", 5);
    }

    private static void addUnknown() {
        Sentences.of(16, "the errors are checked in this order: UNKNOWN if there is no such surface");
        Sentences.refused("", "add 0 0", UNKNOWN);
        Sentences.borders("put", "add # 0", UNKNOWN, 0, 1);
        Sentences.borders("put", "add 0 #", UNKNOWN, 0, 1);
        Sentences.borders(Sentences.times(5, "put"), "add # 4", UNKNOWN, 0, 5, 5, 5, 5, 5);
        Sentences.borders(Sentences.times(5, "put"), "add 4 #", UNKNOWN, 0, 5, 5, 5, 5, 5);
        Sentences.borders(Scenes.RICH, "add # 1", UNKNOWN, 0, 5, 5, 5, 5, 5);
        // Also where there are six, and where the sum would be too large
        Sentences.refused(Scenes.SIX, "add 6 0", UNKNOWN);
        Sentences.refused(Scenes.SIX, "add 0 6", UNKNOWN);
        Sentences.refused(Scenes.SIX, "add -1 5", UNKNOWN);
        Sentences.refused("put, piece 0 0 0 20", "add 0 1", UNKNOWN);
    }

    private static void addFull() {
        Sentences.of(16, "FULL if there are 6 already");
        Subject.after(Sentences.times(5, "put")).due("add 4 4", 5);
        Sentences.refused(Scenes.SIX, "add 0 0", FULL);
        Sentences.refused(Scenes.SIX, "add 5 5", FULL);
        // Before NOT: the sum would have a number above 20, or cross itself.
        Sentences.refused(Scenes.SIX + ", piece 0 0 0 20", "add 0 0", FULL);
        Sentences.refused(Scenes.SIX + ", piece 0 0 4 1, piece 1 0 5 1", "add 0 1", FULL);
        Sentences.refused(Scenes.RICH + ", put", "add 4 4", FULL);
        Subject.after(Scenes.SIX + ", take 0").due("add 0 0", 5);
    }

    private static void addNot() {
        Sentences.of(16, "NOT if the sum crosses itself or has a number above 20.");
        for (int k = 0; k < 21; k++) {
            String at = k / 7 + " " + k % 7 + " ";
            String ten = "bodies 3, put, put, piece 0 " + at + "10, piece 1 " + at;
            Subject x = Subject.after(ten + "10");
            x.due("add 0 1", 2);
            x.due("pieces 2 " + k / 7 + " " + k % 7, 20);
            Sentences.refused(ten + "11", "add 0 1", NOT);
            Sentences.refused(ten + "11", "add 1 1", NOT);
        }
        Subject.after("put, put, piece 0 0 0 20").due("add 0 1", 2);
        Sentences.refused("put, put, piece 0 0 0 20, piece 1 0 0 1", "add 0 1", NOT);
        Sentences.refused(Sentences.shape(0, 20, 20, 20, 20, 20), "add 0 0", NOT);
        for (int b = 0; b < 3; b++) {
            addCrossing(b);
        }
        // A surface that crosses itself is no part of a sum, not even with an empty one.
        Sentences.refused("put, piece 0 0 4 1, piece 0 0 6 1, put", "add 0 1", NOT);
        Sentences.refused("put, piece 0 0 4 1, piece 0 0 6 1, put", "add 1 0", NOT);
        Subject.after("put, piece 0 0 4 1, piece 0 0 6 1, put").due("add 1 1", 2);
        // Nothing is asked of matching.
        Subject.after(Scenes.SPHERE + ", put, piece 0 0 0 3").due("add 0 0", 1);
        Sentences.refused(Scenes.RICH, "add 4 4", NOT);
    }

    private static void addCrossing(int b) {
        for (int kind = 4; kind < 7; kind++) {
            for (int other = 4; other < 7; other++) {
                String two = "bodies 3, put, put, piece 0 " + b + " " + kind + " 1, piece 1 ";
                if (kind == other) {
                    Subject.after(two + b + " " + other + " 19").due("add 0 1", 2);
                } else {
                    Sentences.refused(two + b + " " + other + " 1", "add 0 1", NOT);
                }
                Subject.after(two + (b + 1) % 3 + " " + other + " 1").due("add 0 1", 2);
            }
        }
    }

    private static void addSame() {
        Sentences.of(16, "a surface, possibly the same");
        Subject x = Subject.after(Sentences.shape(0, 1, 2, 3, 4, 10));
        x.due("add 0 0", 1);
        x.dueRow("pieces 1 0 #", 2, 4, 6, 8, 20, 0, 0);
        x.dueRow("pieces 0 0 #", 1, 2, 3, 4, 10, 0, 0);
        Subject y = Subject.after("put");
        y.due("add 0 0", 1);
        y.due("surface 1 2", 0);
    }

    private static void takeUnknown() {
        Sentences.of(17, "Returns the number of surfaces then; UNKNOWN if there is no such surface.");
        Sentences.refused("", "take 0", UNKNOWN);
        Sentences.refused("", "take -1", UNKNOWN);
        Sentences.borders("put", "take #", UNKNOWN, 0, 0);
        Sentences.borders(Scenes.SIX, "take #", UNKNOWN, 0, 5, 5, 5, 5, 5, 5);
        Sentences.borders(Scenes.RICH, "take #", UNKNOWN, 0, 4, 4, 4, 4, 4);
        Sentences.refused("put, take 0", "take 0", UNKNOWN);
        Subject.after(Scenes.SIX + ", take 5, take 4, take 3, take 2, take 1").due("take 0", 0);
    }

    private static void driftOutside() {
        Sentences.of(18, "Returns the number of free faces then; OUTSIDE if n is out of range.");
        Sentences.borders("", "drift #", OUTSIDE, 1, 2, 2, 2, 2, 2, 2, 2, 0, 0, 0, 0, 0);
        Sentences.borders("bodies 2", "drift #", OUTSIDE, 1, 6, 4, 4, 4, 2, 2, 2, 2, 2, 2, 2, 2);
        Sentences.borders("bodies 3", "drift #", OUTSIDE, 1, 10, 10, 10, 10, 8, 6, 6, 6, 6, 6, 6, 4);
        Sentences.borders(Scenes.RICH, "drift #", OUTSIDE, 1, 8, 8, 8, 8, 8, 6, 4, 4, 4, 4, 4, 4);
    }

    private static void driftSteps() {
        Sentences.of(18, "Tries n random gluings, each of which is a step.");
        for (int n = 1; n <= 12; n++) {
            Subject.after("drift " + n).due("told 11", n);
            Subject.after("bodies 3, " + Scenes.SPHERE + ", drift " + n).due("told 11", Math.min(16, 3 + n));
        }
        Subject.after("drift 12, drift 4").due("told 11", 16);
        Subject.after("drift 12, drift 5").due("told 11", 16);
    }

    private static void driftNothing() {
        Sentences.of(18, "The faces are glued if they are different and both free; otherwise nothing happens.");
        // From seed 571035320 face 0 of the last tetrahedron is drawn twice.
        Subject same = Subject.after("put, seed 571035320");
        same.due("drift 1", 4);
        same.due("told 7", 1);
        same.due("told 11", 2);
        same.due("seed 571035320", 834541773);
        Subject.after("bodies 3, seed 571035320").due("drift 1", 12);
        // From seed 1 faces 2 and 3 are drawn, and way 1: they are glued unless one of them is already.
        Subject free = Subject.after("put, seed 1");
        free.due("drift 1", 2);
        free.dueRow("wall 0 2 #", 0, 3, 1);
        free.due("told 7", 0);
        for (int f = 2; f < 4; f++) {
            Subject glued = Subject.after("glue 0 " + f + " 0 1 3, put, seed 1");
            glued.due("drift 1", 2);
            glued.dueRow("wall 0 " + f + " #", 0, 1, 3);
            glued.due("wall 0 " + (5 - f) + " 0", NONE);
            glued.due("told 7", 1);
            glued.due("seed 0", 2035015474);
        }
        Subject both = Subject.after("glue 0 2 0 3 5, put, seed 1");
        both.due("drift 1", 2);
        both.dueRow("wall 0 2 #", 0, 3, 5);
        both.due("told 7", 1);
    }
}
