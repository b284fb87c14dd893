/** Boundary cases of the errors: which code comes first, and that a refused call changes nothing. */
final class BoundaryErrors {
    private static final int NONE = Sentences.NONE, UNKNOWN = Sentences.UNKNOWN, OUTSIDE = Sentences.OUTSIDE, NOT = Sentences.NOT;
    private static final int FULL = Sentences.FULL;

    private BoundaryErrors() {
    }

    static void all() {
        codes();
        firstOne();
        unlessSaid();
        noneOnlyWithoutError();
        changesNothing();
    }

    private static void codes() {
        Sentences.of("ERRORS", "The error codes are UNKNOWN, there is no such tetrahedron, face, corner, edge, vertex, surface or image; "
            + "OUTSIDE, another argument is out of its range; NOT, the call is not possible now, as the method says; FULL, a maximum "
            + "would be exceeded.");
        Sentences.check("", "NONE", PieceSurfaces.NONE, -1);
        Sentences.check("", "UNKNOWN", PieceSurfaces.UNKNOWN, -1000000001);
        Sentences.check("", "OUTSIDE", PieceSurfaces.OUTSIDE, -1000000002);
        Sentences.check("", "NOT", PieceSurfaces.NOT, -1000000003);
        Sentences.check("", "FULL", PieceSurfaces.FULL, -1000000004);
        Subject x = Subject.after(Scenes.SIX);
        x.due("pieces 0 1 0", UNKNOWN);
        x.due("wall 0 4 0", UNKNOWN);
        x.due("corner 0 4 0", UNKNOWN);
        x.due("edge 0 6 0", UNKNOWN);
        x.due("about 4", UNKNOWN);
        x.due("surface 6 0", UNKNOWN);
        x.due("goBack 2", UNKNOWN);
        x.due("told 12", OUTSIDE);
        x.due("free 0 0", NOT);
        x.due("put", FULL);
    }

    private static void firstOne() {
        Sentences.of("ERRORS", "If several of them apply to one call, the first one in this list is returned, unless the method says "
            + "otherwise.");
        // UNKNOWN before OUTSIDE
        String[] unknownOutside = {"wall 3 0 3", "wall 0 4 -1", "corner 3 0 5", "corner 0 -1 5", "edge 3 0 3", "edge 0 6 -1",
            "pieces 5 0 7", "pieces 0 3 -1", "surface 5 9", "surface -1 -1", "glue 3 0 0 1 6", "glue 0 1 0 4 -1",
            "piece 5 0 7 0", "piece 0 3 0 21", "piece 5 3 7 -1"};
        for (String call : unknownOutside) {
            Sentences.refused(Scenes.RICH, call, UNKNOWN);
        }
        // UNKNOWN before NOT: the face that there is, is glued, or is free already
        String[] unknownNot = {"glue 0 0 3 0 0", "glue 3 0 0 0 0", "glue 0 0 0 4 0", "glue 3 3 3 3 0", "glue 0 4 0 4 0", "glue 0 0 3 0 9",
            "free 3 1", "free 0 4", "goBack 2"};
        for (String call : unknownNot) {
            Sentences.refused(Scenes.RICH, call, UNKNOWN);
        }
        // UNKNOWN before FULL
        Sentences.refused(Scenes.SIX, "about 4", UNKNOWN);
        Sentences.refused(Scenes.SIX, "about -1", UNKNOWN);
        Sentences.refused(Scenes.SIX, "add 0 6", UNKNOWN);
        Sentences.refused(Scenes.TWENTY_ENTRIES, "write 1 0", UNKNOWN);
        Sentences.refused(Scenes.TWENTY_ENTRIES, "write -1 0", UNKNOWN);
        // OUTSIDE before NOT
        String[] outsideNot = {"glue 0 0 1 1 6", "glue 0 0 0 1 -1", "glue 0 1 0 0 6", "glue 0 1 0 1 6", "glue 0 0 0 0 -1", "undo 17", "undo 0"};
        for (String call : outsideNot) {
            Sentences.refused(Scenes.RICH, call, OUTSIDE);
        }
        Sentences.refused("", "undo 17", OUTSIDE);
        Sentences.refused("", "undo 0", OUTSIDE);
        Sentences.refused("", "undo -1", OUTSIDE);
    }

    private static void unlessSaid() {
        Sentences.of(16, "the errors are checked in this order: UNKNOWN if there is no such surface; FULL if there are 6 already; NOT if the "
            + "sum crosses itself or has a number above 20.");
        String large = ", piece 0 0 0 20, piece 1 0 4 1, piece 2 0 5 1";
        Sentences.refused(Scenes.SIX + large, "add 0 0", FULL);
        Sentences.refused(Scenes.SIX + large, "add 1 2", FULL);
        Sentences.refused(Scenes.SIX + large, "add 0 6", UNKNOWN);
        Sentences.refused(Scenes.SIX + large + ", take 5", "add 0 0", NOT);
        Sentences.refused(Scenes.SIX + large + ", take 5", "add 1 2", NOT);
        Sentences.refused(Scenes.SIX + large + ", take 5", "add 0 5", UNKNOWN);
    }

    private static void noneOnlyWithoutError() {
        Sentences.of("ERRORS", "NONE (-1) means that there is no such value; it is returned only if no error code applies.");
        Subject x = Subject.after(Scenes.SPHERE + ", free 0 0, put, piece 0 0 2 1");
        x.due("wall 0 0 2", NONE);
        x.due("wall 0 0 3", OUTSIDE);
        x.due("wall 0 4 2", UNKNOWN);
        x.due("corner 0 0 1", NONE);
        x.due("corner 0 0 5", OUTSIDE);
        x.due("corner 1 0 1", UNKNOWN);
        x.due("surface 0 8", NONE);
        x.due("surface 0 9", OUTSIDE);
        x.due("surface 1 8", UNKNOWN);
        x.due("told 10", NONE);
        x.due("told 12", OUTSIDE);
    }

    private static void changesNothing() {
        Sentences.of("ERRORS", "A call that returns an error code changes nothing.");
        Object[][] everywhere = {{"told -1", OUTSIDE}, {"wall -1 0 0", UNKNOWN}, {"wall 0 0 3", OUTSIDE}, {"corner 0 4 0", UNKNOWN},
            {"corner 0 0 5", OUTSIDE}, {"edge 0 6 0", UNKNOWN}, {"edge 0 0 3", OUTSIDE}, {"pieces 6 0 0", UNKNOWN}, {"surface 6 0", UNKNOWN},
            {"weight 6 0 0", UNKNOWN}, {"arcs 0 0 1 1", UNKNOWN}, {"bodies 0", OUTSIDE}, {"glue 0 0 3 1 0", UNKNOWN}, {"glue 0 0 0 1 6", OUTSIDE},
            {"glue 0 2 0 2 0", NOT}, {"free 3 0", UNKNOWN}, {"piece 6 0 0 0", UNKNOWN}, {"about 12", UNKNOWN}, {"add 6 0", UNKNOWN},
            {"take 6", UNKNOWN}, {"drift 0", OUTSIDE}, {"drift 13", OUTSIDE}, {"undo 0", OUTSIDE}, {"undo 17", OUTSIDE}, {"write 6 0", UNKNOWN},
            {"seed -1", OUTSIDE}, {"keep 2", UNKNOWN}, {"goBack 2", UNKNOWN}};
        String[] states = {"", Scenes.LENS, Scenes.ONE_LINE + ", about 0", Scenes.SIX, Scenes.TWENTY_ENTRIES, Scenes.SIXTEEN_STEPS,
            Scenes.SIXTEEN_STEPS + ", put", "keep 0, put, seed 4, keep 1, drift 3", Scenes.RICH};
        for (String state : states) {
            for (Object[] call : everywhere) {
                Sentences.refused(state, (String) call[0], (Integer) call[1]);
            }
        }
        Sentences.refused(Scenes.SIX, "put", FULL);
    }
}
