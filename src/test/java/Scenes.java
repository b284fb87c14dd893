/** Runs of calls that bring a new object into a state from which boundary cases are looked at. */
final class Scenes {
    /** One tetrahedron as a 3-sphere: corner 1 goes to 0 by face 0, corner 3 to 2 by face 2. */
    static final String SPHERE = "glue 0 0 0 1 0, glue 0 2 0 3 0";
    /** One tetrahedron as the lens space L(4, 1). */
    static final String LENS = "glue 0 0 0 1 3, glue 0 2 0 3 3";
    /** One tetrahedron whose only vertex has a link with the characteristic 0, and whose only line is not reversed. */
    static final String GIESEKING = "glue 0 0 0 1 2, glue 0 2 0 3 1";
    /** Three tetrahedra whose eighteen edges form one line, which is reversed, and whose corners form one vertex. */
    static final String ONE_LINE = "bodies 3, glue 0 2 1 3 4, glue 1 1 2 2 2, glue 1 0 2 1 5, glue 1 2 0 3 4, glue 0 0 0 1 2, "
        + "glue 2 3 2 0 3";
    static final String SIX = Sentences.times(6, "put");
    static final String TWENTY_ENTRIES = "put, " + Sentences.times(20, "write 0 0");
    static final String SIXTEEN_STEPS = Sentences.times(16, "bodies 1");
    /** Some of everything: free and glued faces, five surfaces, two entries, ten steps, image 0, the largest seed. */
    static final String RICH = "bodies 2, glue 0 0 1 0 0, put, piece 0 0 0 3, seed 99, keep 0, bodies 3, glue 0 0 1 1 3, "
        + "glue 2 0 2 1 0, seed 2147483647, put, piece 0 0 4 2, about 0, about 1, add 1 2, write 0 5, write 1 1, put, "
        + "piece 4 2 6 20";

    private Scenes() {
    }
}
