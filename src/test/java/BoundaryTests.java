import java.io.IOException;
import java.nio.file.Path;

/** For each sentence of the document's terms and promises a test of its own, which names it; see ../boundaries. */
public final class BoundaryTests {
    public static void main(String[] args) throws IOException {
        Sentences book = new Sentences(Path.of("../shared/DOC.md"));
        ClassBoundaries.tell(book);
        ObjectBoundaries.tell(book);
        ChangeBoundaries.tell(book);
        ReachBoundaries.tell(book);
        DominatorBoundaries.tell(book);
        GroupBoundaries.tell(book);
        TextBoundaries.tell(book);
        CommandBoundaries.tell(book);
        PictureBoundaries.tell(book);
        StateBoundaries.tell(book);
        if (!book.hold()) {
            System.exit(1);
        }
    }
}
