import java.io.IOException;
import java.nio.file.Path;

/** Each sentence of the document with its boundary cases; no sentence of the terms and promises is left out. */
public final class BoundariesTest {
    private static final int PROMISES = 19;

    public static void main(String[] args) throws IOException {
        Checks checks = new Checks();
        Document document = new Document(Path.of("..", "shared", "DOC.md"));
        new BandTermBounds(checks, document).run();
        new PictureTermBounds(checks, document).run();
        new BandBounds(checks, document).run();
        new PictureBounds(checks, document).run();
        checks.about("sentences without a test");
        checks.sameText("Terms", document.unquotedIn("Terms"), "");
        for (int promise = 1; promise <= PROMISES; promise++) {
            checks.sameText("Promise " + promise, document.unquotedIn("Promise " + promise), "");
        }
        checks.end("BoundariesTest");
    }
}
