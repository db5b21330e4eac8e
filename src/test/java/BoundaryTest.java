import java.io.IOException;
import java.nio.file.Path;

/** Each sentence of ../shared/DOC.md has a test of its own at the boundaries that it names. */
public final class BoundaryTest extends Asking {
    public static void main(String[] args) throws IOException {
        Document d = new Document(Path.of(args.length > 0 ? args[0] : "../shared/DOC.md"));
        TermsBoundaries.ask(d);
        TextBoundaries.ask(d);
        AskedBoundaries.ask(d);
        DoorBoundaries.ask(d);
        BestBoundaries.ask(d);
        SeenBoundaries.ask(d);
        SheetBoundaries.ask(d);
        d.allAreAsked();
        finish();
    }
}
