import java.io.IOException;
import java.nio.file.Path;

/** Each sentence of the document that names a boundary case has a test of its own, which names the promise and the sentence. */
public final class BoundaryTest {
    private BoundaryTest() {
    }

    public static void main(String[] args) throws IOException {
        Sentences.read(Path.of("../shared/DOC.md"));
        BoundaryErrors.all();
        BoundaryRooms.all();
        BoundarySurfaces.all();
        BoundaryDeeds.all();
        BoundaryPast.all();
        BoundaryBook.all();
        Sentences.end("BoundaryTest");
    }
}
