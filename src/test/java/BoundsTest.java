import java.io.IOException;
import java.nio.file.Path;

/** Every sentence of the document that names a boundary has a test of its own, quoting it, and holds. */
public final class BoundsTest {
  public static void main(String[] args) throws IOException {
    Due due = new Due("BoundsTest");
    Document document = new Document(Path.of("../shared/DOC.md"));
    Sentences sentences = new Sentences(due, document);
    new StaveBounds(sentences).test();
    new RingBounds(sentences).test();
    new HoopBounds(sentences).test();
    new HeadBounds(sentences).test();
    new TextBounds(sentences).test();
    new PegBounds(sentences).test();
    new ImageBounds(sentences).test();
    sentences.end();
    for (String boundary : document.unquoted()) {
      due.holds(boundary + " is quoted by a test", false);
    }
    for (String section : document.untouched()) {
      due.holds(section + " is quoted by a test", false);
    }
    due.is("promises of the document", document.promises(), 37);
    due.end();
  }
}
