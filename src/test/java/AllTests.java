/** Runs every test of the project; ends with exit code 1 if one failed. */
public final class AllTests {
  private AllTests() {
  }

  public static void main(String[] args) {
    NumbersTest.run();
    SumsTest.run();
    ChoicesTest.run();
    TwoHoardsTest.run();
    TheoremTest.run();
    LimitsTest.run();
    NumbersEdgesTest.run();
    SumsEdgesTest.run();
    ChoicesEdgesTest.run();
    TwoHoardsEdgesTest.run();
    TheoremEdgesTest.run();
    PlaysTest.run();
    TermsTest.run();
    RowsTest.run();
    ReadmeTest.run();
    FaceTest.run();
    RoomTest.run();
    ModelTest.run();
    System.exit(Check.close());
  }
}
