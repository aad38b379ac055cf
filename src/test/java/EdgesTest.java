import java.io.IOException;

/**
 * The document sentence by sentence: each one is said here with a test of its own, and none of the
 * Terms and the promises is left out. Runs at the root of the project.
 */
public final class EdgesTest {
  public static void main(String[] args) throws IOException {
    Doc.open();
    TermsEdges.run();
    StepEdges.run();
    TextEdges.run();
    AskedTermsEdges.run();
    FaceEdges.run();
    ChangeEdges.run();
    AskEdges.run();
    RowEdges.run();
    TapeEdges.run();
    Doc.end();
    Check.end("EdgesTest");
  }
}
