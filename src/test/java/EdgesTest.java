/** Each sentence of the document that names an edge (too small, too large, empty, full, a wrap-around, a refused call), by itself. */
public final class EdgesTest {
  public static void main(String[] args) {
    PassengersEdges.askAll();
    BoatEdges.askAll();
    ThoughtEdges.askAll();
    TextsEdges.askAll();
    SheetsEdges.askAll();
    RowsEdges.askAll();
    RefusedEdges.askAll();
    Sentence.allAreAsked();
    Due.end();
  }
}
