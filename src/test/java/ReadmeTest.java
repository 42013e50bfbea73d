import java.io.IOException;
import java.nio.file.Files;
import java.nio.file.Path;
import java.util.Map;
import java.util.Set;
import java.util.TreeMap;
import java.util.TreeSet;
import java.util.regex.Matcher;
import java.util.regex.Pattern;

/** README.md says of each call what the document says, and its example answers what it says there. */
final class ReadmeTest {
  private static final Path DOCUMENT = Path.of("..", "shared", "DOC.md");
  private static final Path PAGE = Path.of("README.md");
  private static final Path HERE = Path.of("src", "test", "java", "ReadmeTest.java");

  private ReadmeTest() {
  }

  static void run() {
    Checks.test("README.md has a row for each call, with what it takes and throws", ReadmeTest::rows);
    Checks.test("README.md tells the example that is tried here", ReadmeTest::sameExample);
    Checks.test("README.md tells the example's answers", ReadmeTest::answers);
  }

  private static String read(Path path) {
    try {
      return Files.readString(path);
    } catch (IOException thrown) {
      throw new IllegalStateException(thrown);
    }
  }

  private static void rows() {
    Set<String> due = new TreeSet<>();
    Matcher told = Pattern.compile("    public (?:int|boolean|double|long) (\\w+)\\(([^)]*)\\)(.*);").matcher(read(DOCUMENT));
    while (told.find()) {
      String takes = told.group(2).replaceAll("int ", "");
      due.add(told.group(1) + "(" + takes + ") throws " + letters(told.group(3)));
    }
    Checks.due("calls of the document", due.size(), 47);
    Set<String> got = new TreeSet<>();
    Matcher row = Pattern.compile("(?m)^\\| `(\\w+\\([^)]*\\))` \\|.*\\|([^|]*)\\|$").matcher(read(PAGE));
    while (row.find()) {
      got.add(row.group(1) + " throws " + row.group(2).trim());
    }
    Checks.due("rows of README.md", got, due);
  }

  private static String letters(String thrown) {
    return thrown.replaceAll("\\s*throws ", "")
        .replace("IndexOutOfBoundsException", "X")
        .replace("IllegalArgumentException", "A")
        .replace("IllegalStateException", "S")
        .replace(", ", " ");
  }

  private static String exampleTold() {
    String page = read(PAGE);
    int begin = page.indexOf("```java");
    return page.substring(begin + 7, page.indexOf("```", begin + 7));
  }

  private static void sameExample() {
    String here = read(HERE);
    for (String line : exampleTold().split("\n")) {
      String statement = line.replaceAll("//.*", "").trim();
      boolean tried = statement.isEmpty() || here.contains("    " + statement + "\n");
      Checks.due(statement + " is tried here", tried, true);
    }
  }

  private static void answers() {
    ZoneCalendar calendar = new ZoneCalendar();
    int spring = calendar.addPattern(3, 15, 1);
    int autumn = calendar.addPattern(10, 15, 1);
    int place = calendar.addPlace(60);
    calendar.addTurn(place, 1980, 2099, spring, 60, 2, 60);
    calendar.addTurn(place, 1980, 2099, autumn, 60, 2, 0);
    int day = calendar.dayOf(2000, 3, 26);
    int moment = calendar.momentOf(place, 1440 * day + 600);

    int easterMonday = calendar.addPattern(0, 16, 101);
    calendar.addFeast(1900, 2099, easterMonday, 0);
    calendar.setWorkPlace(place);
    int done = calendar.doneAt(moment, 480);

    int second = calendar.addPattern(0, 3, 2);
    int series = calendar.addSeries(place, 1440 * day + 600, 2, 3, 0);
    calendar.usePattern(series, second);
    calendar.setMost(series, 4);
    int first = calendar.dateAt(series, 0);

    Map<String, String> got = new TreeMap<>();
    Matcher told = Pattern.compile("int (\\w+) = [^\n]*// (\\d+): ").matcher(exampleTold());
    while (told.find()) {
      got.put(told.group(1), told.group(2));
    }
    Checks.due("answers told", got.toString(),
        "{day=" + day + ", done=" + done + ", first=" + first + ", moment=" + moment + "}");
    Checks.due("June 13th, 2000", first, calendar.dayOf(2000, 6, 13));
  }
}
