import java.util.Objects;

/** Counts tests that pass and fail, and says what was wrong. */
final class Checks {
  interface Call {
    Object answer();
  }

  private static final Class<?> INDEX = IndexOutOfBoundsException.class;
  private static final Class<?> ARGUMENT = IllegalArgumentException.class;
  private static final Class<?> STATE = IllegalStateException.class;
  private static final int MOST_SAID = 12;

  private static int passed = 0;
  private static int failed = 0;
  private static int wrong = 0;
  private static String running = "";

  private Checks() {
  }

  /** Runs a test; it fails if one of its answers is wrong, or if it throws. */
  static void test(String name, Runnable body) {
    running = name;
    wrong = 0;
    try {
      body.run();
    } catch (RuntimeException | Error thrown) {
      say("threw " + thrown);
      thrown.printStackTrace(System.out);
    }
    if (wrong == 0) {
      passed++;
    } else {
      failed++;
    }
  }

  static boolean end() {
    System.out.println("own: " + passed + " passed, " + failed + " failed");
    return failed == 0;
  }

  private static void say(String text) {
    wrong++;
    if (wrong <= MOST_SAID) {
      System.out.println(running + ": " + text);
    }
  }

  static void due(String what, Object got, Object want) {
    if (!Objects.equals(got, want)) {
      say(what + " answered " + got + ", due is " + want);
    }
  }

  static void due(int got, int want) {
    due("a call", got, want);
  }

  static void due(long got, long want) {
    due("a call", got, want);
  }

  static void due(double got, double want) {
    due("a call", got, want);
  }

  static void due(boolean got, boolean want) {
    due("a call", got, want);
  }

  static void noIndex(Call call) {
    due("a call", outcome(call), INDEX);
  }

  static void noArgument(Call call) {
    due("a call", outcome(call), ARGUMENT);
  }

  static void noState(Call call) {
    due("a call", outcome(call), STATE);
  }

  /** The answer, or the very class of what was thrown: a subclass of the due one is none of the program's. */
  static Object outcome(Call call) {
    try {
      return call.answer();
    } catch (RuntimeException thrown) {
      return thrown.getClass();
    }
  }
}
