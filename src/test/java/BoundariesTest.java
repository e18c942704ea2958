/**
 * Each sentence of the document by the edges that it names: too small, too large, empty, full, what
 * wraps around, refused calls. No sentence of the Terms and the promises is left without a test.
 */
public final class BoundariesTest {
  public static void main(String[] args) {
    NetEdges.all();
    RunEdges.all();
    FindEdges.all();
    KeptEdges.all();
    Due.about("sentences of which no test is");
    noneLeft("Terms");
    for (int promise = 1; promise <= 31; promise++) noneLeft("Promise " + promise);
    Due.leave();
  }

  private static void noneLeft(String heading) {
    String left = Doc.left(heading);
    Due.is(heading + " has none: " + left, left.isEmpty(), true);
  }
}
