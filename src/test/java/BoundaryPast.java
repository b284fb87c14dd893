/** Boundary cases of the seed, of undoing, and of promises 19 and 22 to 24. */
final class BoundaryPast {
    private static final int UNKNOWN = Sentences.UNKNOWN, OUTSIDE = Sentences.OUTSIDE, NOT = Sentences.NOT;
    private static final String[] STEPS = {"bodies 1", "bodies 3", "glue 0 1 2 2 4", "free 1 1", "put", "piece 4 2 6 20", "piece 0 0 4 3",
        "about 7", "add 1 3", "take 0", "take 4", "drift 1"};

    private BoundaryPast() {
    }

    static void all() {
        usedForManyCalls();
        seedAtFirst();
        draws();
        steps();
        noSteps();
        latestSixteen();
        undoingRestores();
        undoOutside();
        undoNot();
        undoReturns();
        seedOutside();
        keepUnknown();
        keepReplaces();
        keepEndsUndoing();
        goBackUnknown();
        goBackNot();
        goBackRestores();
        goBackEndsUndoing();
    }

    private static void usedForManyCalls() {
        Sentences.of("What it is", "An object is used for at most 512 calls after it has been made");
        Subject x = new Subject();
        for (int i = 0; i < 102; i++) {
            x.due("put", 0);
            x.due("piece 0 0 4 20", 0);
            x.due("surface 0 4", 20);
            x.due("drift 12", 4 - 2 * gluedAfter(i));
            x.due("bodies 1", 1);
        }
        x.due("told 11", 16);
        // This is call 512.
        x.due("undo 16", 0);
    }

    /** How many gluings 12 tries make in one tetrahedron, after 12 tries for each earlier round. */
    private static int gluedAfter(int round) {
        long seed = 0;
        int glued = 0;
        for (int i = 0; i <= round; i++) {
            boolean[] used = new boolean[4];
            glued = 0;
            for (int t = 0; t < 12; t++) {
                int[] drawn = new int[5];
                for (int d = 0; d < 5; d++) {
                    seed = (1103515245L * seed + 12345L) % 2147483648L;
                    drawn[d] = (int) (seed / 65536 % 4);
                }
                if (drawn[1] != drawn[3] && !used[drawn[1]] && !used[drawn[3]]) {
                    used[drawn[1]] = true;
                    used[drawn[3]] = true;
                    glued++;
                }
            }
        }
        return glued;
    }

    private static void seedAtFirst() {
        Sentences.of("THE SEED AND UNDOING", "There is a seed, 0 at first.");
        new Subject().due("seed 5", 0);
        Sentences.same("", "seed 0");
    }

    private static void draws() {
        Sentences.of("THE SEED AND UNDOING", "To draw a number below n, the seed becomes (1103515245 * seed + 12345) modulo 2147483648, "
            + "computed without overflow; the number is (seed / 65536) modulo n.");
        // The largest seed and its next draws: 2 1 1 2 1, then 2 0 2 0 2, then 2 1 0 0 1.
        draw(2147483647, 571035320, 2, 1, 1, 2, 1);
        draw(2147483646, 912787067, 2, 2, 1, 0, 2);
        draw(0, 229283573, 0, 0, 1, 1, 0);
        draw(1, 2035015474, 2, 2, 0, 3, 1);
        // Five draws that end at the largest seed (and face 1 of tetrahedron 1 twice), and five that end at 0
        Subject.after("bodies 3, seed 661926866, drift 1").due("seed 0", 2147483647);
        Subject.after("bodies 3, seed 661926866, drift 1").due("told 1", 12);
        draw(423346919, 0, 2, 3, 1, 3, 0);
        // Five draws of which the first makes the seed the largest, and five of which it makes it 0
        draw(230538014, 1751031067, 1, 1, 2, 2, 0);
        Subject.after("bodies 3, seed 2088216195, drift 1").due("seed 0", 1449466924);
        Subject x = Subject.after("bodies 3, seed 2147483647");
        x.due("drift 3", 10);
        x.due("seed 0", 652027854);
    }

    /** In three tetrahedra: the seed, the one after one try, and the faces and the way that are drawn. */
    private static void draw(int seed, int then, int b, int f, int c, int g, int way) {
        Subject x = Subject.after("bodies 3, seed " + seed);
        x.due("drift 1", 10);
        x.dueRow("wall " + b + " " + f + " #", c, g, way);
        x.due("seed 0", then);
    }

    private static final String ARE_STEPS = "The steps are the calls of bodies(), glue(), free(), put(), piece(), about(), add() and take() "
        + "that return no error, also if they change nothing, and each of the n gluings that drift() tries.";

    private static void steps() {
        Sentences.of("THE SEED AND UNDOING", ARE_STEPS);
        for (String step : STEPS) {
            Subject.after(Scenes.RICH + ", " + step).due("told 11", 11);
        }
        Subject.after(Scenes.RICH + ", drift 2").due("told 11", 12);
        // Those that change nothing
        Subject.after("bodies 1").due("told 11", 1);
        Subject.after("put, piece 0 0 0 0").due("told 11", 2);
        Subject.after(Scenes.SPHERE + ", drift 12").due("told 11", 14);
        // An error is no step.
        String[] refused = {"bodies 4", "glue 0 0 0 0 0", "free 0 1", "piece 0 0 0 21", "about 8", "add 0 5", "add 4 4", "take 5",
            "drift 13"};
        for (String call : refused) {
            Subject.after(Scenes.RICH + ", " + call).due("told 11", 10);
        }
        Subject.after(Scenes.SIX + ", put, about 0, add 0 0").due("told 11", 6);
    }

    private static void noSteps() {
        Sentences.of("THE SEED AND UNDOING", ARE_STEPS);
        String[] others = {"told 6", "wall 0 0 0", "corner 0 0 0", "edge 0 0 0", "pieces 0 0 0", "surface 1 8", "weight 0 0 0",
            "arcs 0 0 0 1", "write 0 0", "tear", "seed 7"};
        for (String call : others) {
            Subject.after(Scenes.RICH + ", " + call).due("told 11", 10);
        }
        Subject.after(Scenes.RICH + ", undo 3").due("told 11", 7);
    }

    private static void latestSixteen() {
        Sentences.of("THE SEED AND UNDOING", "The latest 16 can be undone (when one more is made, the oldest one of them can be undone "
            + "no longer, also if others are undone later)");
        for (int n = 1; n <= 40; n++) {
            int can = Math.min(n, 16);
            String run = counted(n);
            Subject x = Subject.after(run);
            x.due("told 11", can);
            x.due("undo " + can, n > 16 ? 1 : 0);
            x.due("pieces 0 0 0", n > 16 ? valueAfter(n - 16) : UNKNOWN);
            x.due("told 11", 0);
            x.due("undo 1", NOT);
        }
        // One more than 16, and others undone: the oldest does not come back.
        Subject later = Subject.after(counted(17));
        later.due("undo 5", 1);
        later.due("undo 12", NOT);
        later.due("undo 11", 1);
        later.due("pieces 0 0 0", 0);
        later.due("undo 1", NOT);
        // Undone, made again, and one more
        Subject again = Subject.after(counted(16) + ", undo 4, " + Sentences.times(5, "piece 0 0 1 7"));
        again.due("told 11", 16);
        again.due("undo 16", 1);
        again.due("surface 0 2", 0);
        Subject.after(counted(10) + ", drift 12, undo 16").due("told 7", 1);
    }

    /** A run of n steps: a surface, and then its number of triangles changed each time. */
    private static String counted(int n) {
        StringBuilder run = new StringBuilder("put");
        for (int i = 2; i <= n; i++) {
            run.append(", piece 0 0 0 ").append(valueAfter(i));
        }
        return run.toString();
    }

    private static int valueAfter(int steps) {
        return (steps - 1) % 21;
    }

    private static void undoingRestores() {
        Sentences.of("THE SEED AND UNDOING", "undoing restores the tetrahedra, the gluings and the surfaces, but not the seed.");
        for (String step : STEPS) {
            if (!step.startsWith("drift")) {
                Sentences.same(Scenes.RICH, Scenes.RICH + ", " + step + ", undo 1");
                Sentences.same(Scenes.RICH, Scenes.RICH + ", " + step + ", bodies 2, undo 2");
            }
        }
        // The seed is the one after the draws; with it set back, all is as before.
        Subject.after("bodies 3, seed 2147483647, drift 12, undo 12").due("seed 0", 516211811);
        String few = "bodies 3, put, piece 0 1 1 1, seed 2147483647";
        for (int n = 1; n <= 12; n++) {
            Sentences.same(few, few + ", drift " + n + ", undo " + n + ", seed 2147483647");
        }
        Subject.after("put, seed 9, undo 1").due("seed 0", 9);
        // The book and the images stay as they are too.
        Subject book = Subject.after("put, write 0 0, put, write 1 5, undo 1");
        book.due("told 9", 2);
        book.due("told 10", 1);
        Subject image = Subject.after("bodies 2, keep 0, bodies 3, undo 1");
        image.due("goBack 0", 1);
        image.due("told 0", 2);
    }

    private static void undoOutside() {
        Sentences.of(19, "OUTSIDE if n is out of range");
        Sentences.borders("put, " + Scenes.SIXTEEN_STEPS, "undo #", OUTSIDE, 1, 0, 0, 0, 0, 0, 0, 0, 0, 0, 0, 0, 0, 0, 0, 0, 1);
        Sentences.refused("", "undo 0", OUTSIDE);
        Sentences.refused("", "undo 17", OUTSIDE);
        Sentences.refused(Scenes.RICH, "undo 0", OUTSIDE);
        Sentences.refused(Scenes.RICH, "undo 17", OUTSIDE);
        Sentences.refused(Scenes.RICH, "undo -1", OUTSIDE);
    }

    private static void undoNot() {
        Sentences.of(19, "NOT if fewer than n steps can be undone.");
        Sentences.refused("", "undo 1", NOT);
        Sentences.refused("", "undo 16", NOT);
        for (int steps = 1; steps <= 15; steps++) {
            String run = Sentences.times(steps, "bodies 2");
            Subject x = Subject.after(run);
            x.due("undo " + steps, 0);
            x.due("told 0", 1);
            Sentences.refused(run, "undo " + (steps + 1), NOT);
        }
        Subject.after(Scenes.SIXTEEN_STEPS).due("undo 16", 0);
        Sentences.refused(Scenes.SIXTEEN_STEPS + ", undo 1", "undo 16", NOT);
        Subject.after(Scenes.SIXTEEN_STEPS + ", undo 1").due("undo 15", 0);
        Sentences.refused(Scenes.SIXTEEN_STEPS + ", bodies 1, undo 16", "undo 1", NOT);
        Sentences.refused(Scenes.RICH, "undo 11", NOT);
        Subject.after(Scenes.RICH).due("undo 10", 1);
    }

    private static void undoReturns() {
        Sentences.of(19, "Returns the number of surfaces then");
        Subject x = Subject.after(Scenes.SIX + ", glue 0 0 0 1 0");
        x.due("told 7", 0);
        for (int left = 6; left >= 0; left--) {
            x.due("undo 1", left);
        }
        x.due("undo 1", NOT);
    }

    private static void seedOutside() {
        Sentences.of(22, "Returns the previous seed; OUTSIDE if v is negative.");
        Subject x = new Subject();
        x.due("seed 2147483647", 0);
        x.due("seed 0", 2147483647);
        x.due("seed 1", 0);
        x.due("seed -1", OUTSIDE);
        x.due("seed 2", 1);
        x.due("seed -2147483648", OUTSIDE);
        x.due("seed 0", 2);
        for (String run : new String[] {"seed 77", Scenes.RICH}) {
            Sentences.refused(run, "seed -1", OUTSIDE);
            Sentences.refused(run, "seed -2147483648", OUTSIDE);
            Sentences.refused(run, "seed " + UNKNOWN, OUTSIDE);
        }
    }

    private static void keepUnknown() {
        Sentences.of(23, "Returns 1; UNKNOWN if there is no such image.");
        Sentences.borders("", "keep #", UNKNOWN, 0, 1, 1);
        Sentences.borders("put", "keep #", UNKNOWN, 0, 1, 1);
        Sentences.borders(Scenes.RICH, "keep #", UNKNOWN, 0, 1, 1);
    }

    private static void keepReplaces() {
        Sentences.of(23, "Saves the tetrahedra, the gluings, the surfaces and the seed as an image, replacing what was saved there.");
        String[] others = {"", ", keep 1", ", bodies 2, keep 1"};
        for (int i = 0; i < 2; i++) {
            String keep = ", keep " + i;
            Subject over = Subject.after("bodies 2, glue 0 0 1 0 0, put, piece 0 0 1 5, seed 8" + keep
                + ", bodies 3, put, put, piece 1 2 6 4, seed 9" + keep + ", bodies 1, seed 10, goBack " + i);
            over.dueRow("told #", 3, 12, 12, 18, 0, 12, 1, 2);
            over.due("pieces 1 2 6", 4);
            over.due("surface 0 2", 0);
            over.due("seed 0", 9);
            over.due("goBack " + (1 - i), NOT);
        }
        // The other image stays as it was.
        for (String other : others) {
            Subject two = Subject.after("put, seed 3, keep 0, put, seed 4" + other + ", goBack 0");
            two.due("told 7", 1);
            two.due("seed 0", 3);
            two.due("goBack 1", other.isEmpty() ? NOT : 1);
            two.due("told 0", other.contains("bodies") ? 2 : 1);
            two.due("seed 0", other.isEmpty() ? 0 : 4);
        }
        // What is done after the saving is not in the image.
        Subject later = Subject.after("put, piece 0 0 0 1, keep 0, piece 0 0 0 2, glue 0 0 0 1 0, goBack 0");
        later.due("pieces 0 0 0", 1);
        later.due("told 1", 4);
    }

    private static void keepEndsUndoing() {
        Sentences.of(23, "No step can be undone then.");
        for (String run : new String[] {"", "put", Scenes.SIXTEEN_STEPS, Scenes.RICH}) {
            Subject x = Subject.after(run.isEmpty() ? "keep 1" : run + ", keep 1");
            x.due("told 11", 0);
            x.due("undo 1", NOT);
            x.call("bodies 2");
            x.due("told 11", 1);
            x.due("undo 2", NOT);
            x.due("undo 1", Subject.after(run).call("told 7"));
            x.due("undo 1", NOT);
        }
    }

    private static void goBackUnknown() {
        Sentences.of(24, "Returns 1; UNKNOWN if there is no such image");
        String both = "keep 0, put, keep 1, put";
        Sentences.borders(both, "goBack #", UNKNOWN, 0, 1, 1);
        Sentences.refused("", "goBack -1", UNKNOWN);
        Sentences.refused("", "goBack 2", UNKNOWN);
        Sentences.refused(Scenes.RICH, "goBack 2", UNKNOWN);
        Sentences.refused(Scenes.RICH, "goBack -1", UNKNOWN);
    }

    private static void goBackNot() {
        Sentences.of(24, "NOT if nothing was saved there.");
        Sentences.refused("", "goBack 0", NOT);
        Sentences.refused("", "goBack 1", NOT);
        Sentences.refused("put, keep 0, put", "goBack 1", NOT);
        Sentences.refused("put, keep 1, put", "goBack 0", NOT);
        Sentences.refused(Scenes.RICH, "goBack 1", NOT);
        Subject.after("keep 0").dueRow("goBack #", 1, NOT);
        Subject.after("keep 1").dueRow("goBack #", NOT, 1);
        // A keep() that is refused saves nothing.
        Subject.after("keep 2, keep -1").dueRow("goBack #", NOT, NOT);
    }

    private static void goBackRestores() {
        Sentences.of(24, "Restores the tetrahedra, the gluings, the surfaces and the seed from an image, which keeps them.");
        String[] rooms = {"", "put, piece 0 0 3 20", Scenes.SIX, Scenes.LENS + ", put, seed 2147483647", Scenes.ONE_LINE + ", about 0"};
        String[] changes = {"bodies 3", "bodies 1, drift 12", "put, piece 0 0 0 9, take 0", "seed 1", "drift 5", "free 0 0", "bodies 2, keep 1"};
        for (String room : rooms) {
            String kept = room.isEmpty() ? "keep 0" : room + ", keep 0";
            for (String change : changes) {
                if (!change.contains("keep")) {
                    Sentences.same(kept, kept + ", " + change + ", goBack 0");
                }
                Sentences.same(kept + ", " + change + ", goBack 0", kept + ", " + change + ", goBack 0, put, goBack 0");
            }
        }
        // The book is not restored.
        Subject book = Subject.after("put, write 0 0, keep 0, write 0 0, write 0 1, goBack 0");
        book.due("told 9", 3);
        book.due("told 10", 2);
        Subject torn = Subject.after("put, write 0 0, keep 0, tear, goBack 0");
        torn.due("told 9", 0);
    }

    private static void goBackEndsUndoing() {
        Sentences.of(24, "No step can be undone then.");
        Subject x = Subject.after("put, keep 0, " + Scenes.SIXTEEN_STEPS + ", goBack 0");
        x.due("told 11", 0);
        x.due("undo 1", NOT);
        x.due("put", 1);
        x.due("undo 2", NOT);
        x.due("undo 1", 1);
        // One that is refused leaves the steps.
        Subject y = Subject.after("keep 0, put, goBack 1, goBack 2");
        y.due("told 11", 1);
        y.due("undo 1", 0);
    }
}
