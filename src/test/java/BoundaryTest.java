import java.io.IOException;
import java.nio.file.Path;

/**
 * The boundary cases of the document, promises 1 to 58: each sentence that names one, quoted, with a test of its own.
 * With an argument it also tells what of the document is not quoted.
 */
public final class BoundaryTest {
    public static void main(String[] args) throws IOException {
        Boundary b = new Boundary(Path.of("../shared/DOC.md"));
        new BufferBoundaries(b).all();
        new TextBoundaries(b).all();
        new ErrorBoundaries(b).all();
        new RiverBoundaries(b).all();
        new MonthBoundaries(b).all();
        new ForecastBoundaries(b).all();
        new ActionBoundaries(b).all();
        new RefusalBoundaries(b).all();
        if (args.length > 0) {
            b.tellUnquoted();
        }
        b.end();
    }
}
