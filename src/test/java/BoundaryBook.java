/** Boundary cases of the book, and of promises 20 and 21. */
final class BoundaryBook {
    private static final int NONE = Sentences.NONE, UNKNOWN = Sentences.UNKNOWN, FULL = Sentences.FULL;

    private BoundaryBook() {
    }

    static void all() {
        atMostTwenty();
        noSuchSurface();
        notNormal();
        anotherCharacteristic();
        writeUnknown();
        writeFull();
        anyNumber();
        tearCounts();
    }

    private static void atMostTwenty() {
        Sentences.of("THE BOOK", "The book has at most 20 entries; each says that the surface with a certain number has a certain Euler "
            + "characteristic.");
        Subject x = Subject.after("put, put");
        for (int n = 1; n <= 20; n++) {
            x.due("write " + n % 2 + " 0", n);
            x.due("told 9", n);
        }
        x.due("write 0 0", FULL);
        x.due("told 9", 20);
        x.due("told 10", NONE);
        // Those of surface 1, of which the first is entry 0
        x.due("piece 1 0 0 1", 0);
        x.due("told 10", 0);
        x.due("piece 1 0 0 0", 1);
        x.due("piece 0 0 0 1", 0);
        x.due("told 10", 1);
    }

    private static final String WRONG = "An entry is wrong if the surface with this number does not exist, is not normal, or has another "
        + "Euler characteristic now.";

    private static void noSuchSurface() {
        Sentences.of("THE BOOK", WRONG);
        Subject x = Subject.after("put, put, write 0 0, write 1 0");
        x.due("told 10", NONE);
        x.due("take 1", 1);
        x.due("told 10", 1);
        x.due("take 0", 0);
        x.due("told 10", 0);
        x.due("put", 0);
        x.due("told 10", 1);
        x.due("put", 1);
        x.due("told 10", NONE);
        // The number counts, not the surface that had it: the later one is the earlier one now.
        Subject moved = Subject.after("put, put, piece 1 0 0 1, write 0 0, write 1 1, take 0");
        moved.due("told 10", 0);
        Subject.after("put, write 0 0, glue 0 0 0 1 0").due("told 10", 0);
        Subject.after("put, write 0 0, glue 0 0 0 1 0, undo 1").due("told 10", NONE);
        Subject.after(Scenes.SIX + ", write 5 0").due("told 10", NONE);
        Subject.after(Scenes.SIX + ", write 5 0, take 0").due("told 10", 0);
    }

    private static void notNormal() {
        Sentences.of("THE BOOK", WRONG);
        // One that does not match, and one that crosses itself, with all that could be said of them
        String[] shapes = {Scenes.SPHERE + ", put, piece 0 0 0 1", "put, piece 0 0 4 1, piece 0 0 5 1"};
        for (String shape : shapes) {
            for (int v = -4; v <= 4; v++) {
                Subject.after(shape + ", write 0 " + v).due("told 10", 0);
            }
            Subject.after(shape + ", write 0 " + NONE).due("told 10", 0);
            Subject.after(shape + ", write 0 -1001").due("told 10", 0);
        }
        Subject x = Subject.after(Scenes.SPHERE + ", put, piece 0 0 0 1, write 0 2");
        x.due("told 10", 0);
        x.due("piece 0 0 1 1", 0);
        x.due("told 10", NONE);
        x.due("piece 0 0 5 1", 0);
        x.due("told 10", 0);
    }

    private static void anotherCharacteristic() {
        Sentences.of("THE BOOK", WRONG);
        Subject x = Subject.after(Scenes.SPHERE + ", about 0, write 0 2");
        x.due("told 10", NONE);
        for (int v = -1; v <= 5; v++) {
            Subject.after(Scenes.SPHERE + ", about 0, write 0 " + v).due("told 10", v == 2 ? NONE : 0);
        }
        x.due("add 0 0", 1);
        x.due("told 10", NONE);
        x.due("take 0", 1);
        x.due("told 10", 0);
        x.due("write 0 4", 2);
        x.due("told 10", 0);
        Subject minus = Subject.after(Scenes.ONE_LINE + ", about 0, write 0 -4, write 0 4");
        minus.due("told 10", 1);
    }

    private static void writeUnknown() {
        Sentences.of(20, "UNKNOWN if there is no such surface");
        Sentences.refused("", "write 0 0", UNKNOWN);
        Sentences.refused("", "write -1 0", UNKNOWN);
        Sentences.borders("put", "write # 0", UNKNOWN, 0, 1);
        Sentences.borders(Scenes.SIX, "write # 0", UNKNOWN, 0, 1, 1, 1, 1, 1, 1);
        Sentences.borders(Scenes.RICH, "write # 0", UNKNOWN, 0, 3, 3, 3, 3, 3);
        Sentences.refused("put, put, take 0", "write 1 0", UNKNOWN);
    }

    private static void writeFull() {
        Sentences.of(20, "FULL if there are 20 entries already.");
        Subject.after("put, " + Sentences.times(18, "write 0 0")).due("write 0 0", 19);
        Subject.after("put, " + Sentences.times(19, "write 0 0")).due("write 0 0", 20);
        Sentences.refused(Scenes.TWENTY_ENTRIES, "write 0 0", FULL);
        Sentences.refused(Scenes.TWENTY_ENTRIES, "write 0 5", FULL);
        Sentences.refused(Scenes.TWENTY_ENTRIES + ", write 0 0", "write 0 5", FULL);
        Sentences.refused(Scenes.RICH + ", " + Sentences.times(18, "write 4 1"), "write 4 1", FULL);
        Subject.after(Scenes.TWENTY_ENTRIES + ", tear").due("write 0 0", 1);
        // Undoing removes no entries.
        Sentences.refused("put, " + Scenes.TWENTY_ENTRIES + ", undo 1", "write 0 0", FULL);
    }

    private static void anyNumber() {
        Sentences.of(20, "the Euler characteristic that the entry says, any number");
        int[] any = {Integer.MIN_VALUE, Integer.MIN_VALUE + 1, -1000000004, -1000000001, -1001, -1, 1, 1000, Integer.MAX_VALUE};
        for (int v : any) {
            Subject x = Subject.after("put, write 0 0");
            x.due("write 0 " + v, 2);
            x.due("told 10", 1);
        }
        Subject.after("put, write 0 0").due("told 10", NONE);
    }

    private static void tearCounts() {
        Sentences.of(21, "Removes all entries of the book. Returns how many there were.");
        new Subject().due("tear", 0);
        for (int n = 1; n <= 20; n++) {
            Subject x = Subject.after("put, " + Sentences.times(n, "write 0 1"));
            x.due("told 10", 0);
            x.due("tear", n);
            x.dueRow("told #", 1, 4, 4, 6, 0, 4, 1, 1, 101, 0, NONE, 1);
            x.due("tear", 0);
            x.due("write 0 0", 1);
            x.due("told 10", NONE);
        }
        Sentences.same("put, seed 4", "put, seed 4, write 0 1, tear");
        Sentences.same(Scenes.RICH.replace(", write 0 5, write 1 1", ""), Scenes.RICH + ", tear");
    }
}
