import java.io.IOException;
import java.nio.file.Files;
import java.nio.file.Path;

/** Each sentence of the document with its edges: what is least, largest, one beyond, empty, full, refused. */
public final class EdgeTests {
  private static final Due due = new Due();

  public static void main(String[] args) throws IOException {
    Path document = Path.of(System.getProperty("shared", "../shared")).resolve("DOC.md");
    Sentences doc = new Sentences(Files.readString(document), due);
    RefusalEdges.tell(doc);
    FieldEdges.tell(doc);
    FieldPromiseEdges.tell(doc);
    AskEdges.tell(doc);
    TextEdges.tell(doc);
    WhyEdges.tell(doc);
    MinuteEdges.tell(doc);
    BillEdges.tell(doc);
    SheetEdges.tell(doc);
    ImageEdges.tell(doc);
    doc.areAllNamed();
    due.end();
  }
}
