/** Runs all tests of the project; an argument is the number of drawn runs. */
public final class AllTests {
  private AllTests() {
  }

  public static void main(String[] args) {
    DaysTest.run();
    DayEdgesTest.run();
    PatternsTest.run();
    PlacesTest.run();
    ClockEdgesTest.run();
    SeriesTest.run();
    SeriesEdgesTest.run();
    WorkTest.run();
    WorkEdgesTest.run();
    DigestTest.run();
    RefusedCallsTest.run();
    FaceTest.run();
    ReadmeTest.run();
    RandomRunsTest.run(args.length > 0 ? Integer.parseInt(args[0]) : 60);
    if (!Checks.end()) {
      System.exit(1);
    }
  }
}
