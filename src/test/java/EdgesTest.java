/** The sentences of the document that name an edge, each with tests of its own. */
public final class EdgesTest {
  private EdgesTest() {
  }

  public static void main(String[] args) {
    EdgesOfFirstLines.all();
    EdgesOfText.all();
    EdgesOfHours.all();
    EdgesOfQuestions.all();
    EdgesOfSights.all();
    Edge.allQuoted();
    Check.end("EdgesTest");
  }
}
