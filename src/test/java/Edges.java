import java.io.IOException;

/** Each sentence of the document that names a boundary has a test of its own. */
public final class Edges {
  public static void main(String[] args) throws IOException {
    Edge.load();
    EdgesOfTexts.all();
    EdgesOfGoing.all();
    EdgesOfDays.all();
    if (!Edge.closes()) System.exit(1);
  }
}
