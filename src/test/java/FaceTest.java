import java.io.IOException;
import java.io.PrintWriter;
import java.io.StringWriter;
import java.lang.reflect.Constructor;
import java.lang.reflect.Field;
import java.lang.reflect.Method;
import java.lang.reflect.Modifier;
import java.nio.file.Files;
import java.nio.file.Path;
import java.util.ArrayList;
import java.util.Arrays;
import java.util.HashSet;
import java.util.List;
import java.util.Map;
import java.util.Set;
import java.util.TreeMap;
import java.util.TreeSet;
import java.util.regex.Matcher;
import java.util.regex.Pattern;
import java.util.spi.ToolProvider;

/** The face is the document's, and the program keeps to the rules of the language that can be seen without much ado. */
final class FaceTest {
  private static final Path DOCUMENT = Path.of("..", "shared", "DOC.md");
  private static final Path PROGRAM = Path.of("src", "main", "java", "ZoneCalendar.java");

  private FaceTest() {
  }

  static void run() {
    Checks.test("the face is the document's", FaceTest::face);
    Checks.test("fields and classes inside", FaceTest::inside);
    Checks.test("words that the language leaves out", FaceTest::words);
    Checks.test("nothing of the library but what is listed", FaceTest::library);
    Checks.test("methods stay short", FaceTest::lengths);
    Checks.test("calls go at most eight deep", FaceTest::depth);
    Checks.test("calls make few objects", FaceTest::room);
  }

  private static String read(Path path) {
    try {
      return Files.readString(path);
    } catch (IOException thrown) {
      throw new IllegalStateException(thrown);
    }
  }

  private static void face() {
    String document = read(DOCUMENT);
    String told = document.substring(document.indexOf("```java"), document.indexOf("## Terms"));
    Set<String> due = new TreeSet<>();
    Matcher matcher = Pattern.compile("public (\\w+) (\\w+)\\(([^)]*)\\)").matcher(told);
    while (matcher.find()) {
      due.add(matcher.group(1) + " " + matcher.group(2) + " " + matcher.group(3).replaceAll(" \\w+(,|$)", "$1"));
    }
    Checks.due("methods told", due.size(), 47);
    Set<String> got = new TreeSet<>();
    Set<String> hidden = new HashSet<>();
    for (Method method : ZoneCalendar.class.getDeclaredMethods()) {
      if (Modifier.isPrivate(method.getModifiers())) {
        hidden.add(method.getName());
        continue;
      }
      Checks.due(method + " is public and no static one", method.getModifiers(), Modifier.PUBLIC);
      String types = Arrays.toString(method.getParameterTypes()).replaceAll("[\\[\\]]", "");
      got.add(method.getReturnType() + " " + method.getName() + " " + types);
    }
    Checks.due("the face", got, due);
    for (String each : due) {
      Checks.due(each + " is the name of a private method", hidden.contains(each.split(" ")[1]), false);
    }
    Constructor<?>[] constructors = ZoneCalendar.class.getDeclaredConstructors();
    Checks.due("constructors", constructors.length, 1);
    Checks.due("the constructor", constructors[0].toString(), "public ZoneCalendar()");
    Checks.due("the class", ZoneCalendar.class.getModifiers(), Modifier.PUBLIC | Modifier.FINAL);
  }

  private static void inside() {
    List<Class<?>> classes = new ArrayList<>(List.of(ZoneCalendar.class.getDeclaredClasses()));
    for (Class<?> each : classes) {
      Checks.due(each + " is public", Modifier.isPublic(each.getModifiers()), false);
      Checks.due(each + " is static", Modifier.isStatic(each.getModifiers()), true);
    }
    classes.add(ZoneCalendar.class);
    Checks.due("at most twelve classes", classes.size() <= 12, true);
    for (Class<?> each : classes) {
      int fields = 0;
      for (Field field : each.getDeclaredFields()) {
        boolean constant = Modifier.isStatic(field.getModifiers());
        fields += constant ? 0 : 1;
        Checks.due(field + " is final, if static", !constant || Modifier.isFinal(field.getModifiers()), true);
        boolean open = each == ZoneCalendar.class && !Modifier.isPrivate(field.getModifiers());
        Checks.due(field + " is open", open, false);
      }
      Checks.due(each + " has at most twenty fields", fields <= 20, true);
    }
  }

  private static String withoutComments() {
    return read(PROGRAM).replaceAll("(?s)/\\*.*?\\*/", "").replaceAll("//[^\n]*", "");
  }

  private static void words() {
    String program = withoutComments();
    String[] leftOut = {
      "import", "package", "->", "::", "\\bcatch\\b", "\\btry\\b", "\\bfinally\\b", "synchronized", "\\bassert\\b",
      "instanceof", "static \\{", "\\brecord\\b", "\"\\s*\\+", "\\+\\s*\"", "Exact\\(", "System\\.", "getMessage",
      "hashCode", "toString", "\\bvar\\b", "protected", "Thread", "Random", "\\bfloat\\b"};
    for (String word : leftOut) {
      Matcher matcher = Pattern.compile(word).matcher(program);
      Checks.due(word, matcher.find() ? "there" : "not there", "not there");
    }
    Matcher thrown = Pattern.compile("throw ([^;]*);").matcher(program);
    while (thrown.find()) {
      boolean plain = thrown.group(1).matches("new (IndexOutOfBounds|IllegalArgument|IllegalState)Exception\\(\"[^\"]*\"\\)");
      Checks.due(thrown.group(), plain, true);
    }
    Checks.due("signs beyond 126", program.chars().allMatch(sign -> sign < 127), true);
  }

  /** Each name of a class, and what is used of the library's, is one that rule 4 or rule 6 lists. */
  private static void library() {
    String program = withoutComments().replaceAll("\"[^\"]*\"", "");
    Set<String> known = new TreeSet<>(List.of("ZoneCalendar", "Math", "IndexOutOfBoundsException",
        "IllegalArgumentException", "IllegalStateException"));
    for (Class<?> each : ZoneCalendar.class.getDeclaredClasses()) {
      known.add(each.getSimpleName());
    }
    Matcher name = Pattern.compile("\\b[A-Z]\\w*[a-z]\\w*").matcher(program);
    while (name.find()) {
      Checks.due(name.group() + " is known", known.contains(name.group()), true);
    }
    Matcher used = Pattern.compile("\\bMath\\s*\\.\\s*(\\w+)").matcher(program);
    while (used.find()) {
      boolean listed = List.of("min", "max", "abs", "floorDiv", "floorMod").contains(used.group(1));
      Checks.due(used.group() + " is listed", listed, true);
    }
  }

  private static void lengths() {
    int length = 0;
    for (String line : read(PROGRAM).split("\n")) {
      boolean top = line.matches("  (  )?\\}");
      length = top ? 0 : length + 1;
      Checks.due("lines on end without the end of a method, at " + line, length <= 62, true);
      Checks.due("length of " + line, line.length() <= 120, true);
    }
  }

  /** The calls in the compiled classes, those of the library among them, told by javap. */
  private static void depth() {
    List<String> args = new ArrayList<>(List.of("-c", "-p", "-cp", System.getProperty("java.class.path")));
    args.add("ZoneCalendar");
    for (Class<?> each : ZoneCalendar.class.getDeclaredClasses()) {
      args.add(each.getName());
    }
    StringWriter told = new StringWriter();
    ToolProvider javap = ToolProvider.findFirst("javap").orElseThrow();
    int code = javap.run(new PrintWriter(told), new PrintWriter(told), args.toArray(new String[0]));
    Checks.due("exit code of javap", code, 0);
    Map<String, Set<String>> calls = callsTold(told.toString());
    Checks.due("methods found", calls.size() > 100, true);
    for (String method : calls.keySet()) {
      int deep = depthOf(method, calls, 0);
      Checks.due(method + " goes " + deep + " deep", deep <= 8, true);
    }
  }

  private static Map<String, Set<String>> callsTold(String told) {
    Map<String, Set<String>> calls = new TreeMap<>();
    Pattern head = Pattern.compile("^.*class (\\S+) .*\\{$");
    Pattern start = Pattern.compile("^  [^ ].*?([\\w$]+)\\([^)]*\\).*;$");
    Pattern call = Pattern.compile("// (?:Interface)?Method (\\S+):");
    String owner = "";
    String method = "";
    for (String line : told.split("\n")) {
      Matcher matcher = head.matcher(line);
      if (matcher.matches()) {
        owner = matcher.group(1);
      }
      matcher = start.matcher(line);
      if (matcher.matches()) {
        String name = matcher.group(1);
        method = owner + "." + (name.equals(owner) ? "<init>" : name);
        calls.put(method, new HashSet<>());
      }
      matcher = call.matcher(line);
      if (matcher.find() && calls.containsKey(method)) {
        String called = matcher.group(1).replace("\"", "");
        calls.get(method).add(called.contains(".") ? called : owner + "." + called);
      }
    }
    return calls;
  }

  private static int depthOf(String method, Map<String, Set<String>> calls, int ahead) {
    int deepest = 0;
    if (ahead < 20) {
      for (String called : calls.getOrDefault(method, Set.of())) {
        deepest = Math.max(deepest, depthOf(called, calls, ahead + 1));
      }
    }
    return deepest + 1;
  }

  /** The dearest calls, each of which could be made 512 times: they shall make next to nothing. */
  private static void room() {
    com.sun.management.ThreadMXBean beans =
        (com.sun.management.ThreadMXBean) java.lang.management.ManagementFactory.getThreadMXBean();
    long thread = Thread.currentThread().getId();
    long before = beans.getThreadAllocatedBytes(thread);
    ZoneCalendar x = new ZoneCalendar();
    for (int k = 0; k < 24; k++) {
      x.addPattern(1 + k % 12, 2 + k % 14, 1 + k % 5);
    }
    for (int k = 0; k < 6; k++) {
      x.addPlace(60 * k);
      x.addSeries(k, 52596000, k % 4, 1 + k, 0);
      for (int turn = 0; turn < 6; turn++) {
        x.addTurn(k, 1900, 2099, turn, 60, 0, 10 * turn);
      }
    }
    for (int k = 0; k < 20; k++) {
      x.addFeast(1900, 2099, k, 3);
    }
    long full = beans.getThreadAllocatedBytes(thread);
    for (int k = 0; k < 512; k++) {
      x.digest();
      x.setMost(k % 6, 20);
      x.setWeek(1 + k % 127);
      x.doneAt(52560000, 10000);
    }
    long done = beans.getThreadAllocatedBytes(thread);
    Checks.due("bytes of a full calendar are few: " + (full - before), full - before < 400000, true);
    Checks.due("bytes of calls are few: " + (done - full), done - full < 20000, true);
  }
}
