/** One object of the class and one of the model, which get the same calls; every difference is counted and told. */
final class Pair {
    static final String[] NAMES = {"told", "wall", "corner", "edge", "pieces", "surface", "weight", "arcs", "bodies",
        "glue", "free", "put", "piece", "about", "add", "take", "drift", "undo", "write", "tear", "seed", "keep", "goBack"};
    static final int[] ARGUMENTS = {1, 3, 3, 3, 3, 2, 3, 4, 1, 5, 2, 0, 4, 1, 2, 1, 1, 1, 2, 0, 1, 1, 1};

    static int wrong = 0;
    static long calls = 0;

    /** Hidden, so that every call of it is counted; what a test must know of the state it asks the model. */
    private final PieceSurfaces real = new PieceSurfaces();
    final Model model = new Model();
    private final StringBuilder run = new StringBuilder();
    private int made;

    int call(String name, int... a) {
        int got;
        int due;
        calls++;
        made++;
        if (callsLeft() < 0) {
            throw new IllegalStateException("more than " + Subject.LIMIT + " calls: " + run);
        }
        switch (name) {
            case "told": got = real.told(a[0]); due = model.told(a[0]); break;
            case "wall": got = real.wall(a[0], a[1], a[2]); due = model.wall(a[0], a[1], a[2]); break;
            case "corner": got = real.corner(a[0], a[1], a[2]); due = model.corner(a[0], a[1], a[2]); break;
            case "edge": got = real.edge(a[0], a[1], a[2]); due = model.edge(a[0], a[1], a[2]); break;
            case "pieces": got = real.pieces(a[0], a[1], a[2]); due = model.pieces(a[0], a[1], a[2]); break;
            case "surface": got = real.surface(a[0], a[1]); due = model.surface(a[0], a[1]); break;
            case "weight": got = real.weight(a[0], a[1], a[2]); due = model.weight(a[0], a[1], a[2]); break;
            case "arcs": got = real.arcs(a[0], a[1], a[2], a[3]); due = model.arcs(a[0], a[1], a[2], a[3]); break;
            case "bodies": got = real.bodies(a[0]); due = model.bodies(a[0]); break;
            case "glue": got = real.glue(a[0], a[1], a[2], a[3], a[4]); due = model.glue(a[0], a[1], a[2], a[3], a[4]); break;
            case "free": got = real.free(a[0], a[1]); due = model.free(a[0], a[1]); break;
            case "put": got = real.put(); due = model.put(); break;
            case "piece": got = real.piece(a[0], a[1], a[2], a[3]); due = model.piece(a[0], a[1], a[2], a[3]); break;
            case "about": got = real.about(a[0]); due = model.about(a[0]); break;
            case "add": got = real.add(a[0], a[1]); due = model.add(a[0], a[1]); break;
            case "take": got = real.take(a[0]); due = model.take(a[0]); break;
            case "drift": got = real.drift(a[0]); due = model.drift(a[0]); break;
            case "undo": got = real.undo(a[0]); due = model.undo(a[0]); break;
            case "write": got = real.write(a[0], a[1]); due = model.write(a[0], a[1]); break;
            case "tear": got = real.tear(); due = model.tear(); break;
            case "seed": got = real.seed(a[0]); due = model.seed(a[0]); break;
            case "keep": got = real.keep(a[0]); due = model.keep(a[0]); break;
            default: got = real.goBack(a[0]); due = model.goBack(a[0]); break;
        }
        note(name, a, got, due);
        return got;
    }

    int callsLeft() {
        return Subject.LIMIT - made;
    }

    private void note(String name, int[] a, int got, int due) {
        run.append(name).append('(');
        for (int i = 0; i < a.length; i++) {
            run.append(i == 0 ? "" : ", ").append(a[i]);
        }
        run.append(") ");
        if (got != due) {
            wrong++;
            if (wrong <= 10) {
                System.out.println("after " + run + "answered " + got + ", due is " + due);
            }
        }
    }

    /** Every property of the gluings. */
    void lookAtRooms() {
        for (int what = 0; what < 12; what++) {
            call("told", what);
        }
        for (int b = 0; b < model.told(0); b++) {
            for (int v = 0; v < 4; v++) {
                for (int what = 0; what < 3; what++) {
                    call("wall", b, v, what);
                }
                for (int what = 0; what < 5; what++) {
                    call("corner", b, v, what);
                }
            }
            for (int e = 0; e < 6; e++) {
                for (int what = 0; what < 3; what++) {
                    call("edge", b, e, what);
                }
            }
        }
    }

    void lookAtSurface(int s) {
        for (int what = 0; what < 9; what++) {
            call("surface", s, what);
        }
    }

    void lookAtNumbers(int s) {
        for (int b = 0; b < model.told(0); b++) {
            for (int kind = 0; kind < 7; kind++) {
                call("pieces", s, b, kind);
            }
            for (int e = 0; e < 6; e++) {
                call("weight", s, b, e);
            }
            for (int f = 0; f < 4; f++) {
                for (int v = 0; v < 4; v++) {
                    call("arcs", s, b, f, v);
                }
            }
        }
    }

    static void end(String test) {
        System.out.println(test + ": " + calls + " calls, " + wrong + " wrong");
        if (wrong != 0) {
            System.exit(1);
        }
    }
}
