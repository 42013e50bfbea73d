import java.lang.reflect.InvocationTargetException;
import java.lang.reflect.Method;
import java.util.ArrayList;
import java.util.Arrays;
import java.util.List;

/**
 * Each call that is refused throws just what the document names, the one named first where several apply, and leaves
 * everything as it was: behind it an object answers as one to which the same was done but for this call.
 */
final class RefusedCallsTest {
  private static final Class<?> INDEX = IndexOutOfBoundsException.class;
  private static final Class<?> ARGUMENT = IllegalArgumentException.class;
  private static final Class<?> STATE = IllegalStateException.class;
  private static final int MIN = Integer.MIN_VALUE;
  private static final int MAX = Integer.MAX_VALUE;
  private static final int LAST_DAY = 73048;
  private static final int LAST_MOMENT = 105190559;
  private static final int BEGIN = 36500;

  private interface Builder {
    ZoneCalendar build();
  }

  private record Refused(Class<?> due, String name, int... args) {
    @Override
    public String toString() {
      return name + Arrays.toString(args);
    }
  }

  private RefusedCallsTest() {
  }

  static void run() {
    Checks.test("refused: calls on days", () -> eachOf(RefusedCallsTest::some, onDays()));
    Checks.test("refused: calls on patterns", () -> eachOf(RefusedCallsTest::some, onPatterns()));
    Checks.test("refused: calls on places", () -> eachOf(RefusedCallsTest::some, onPlaces()));
    Checks.test("refused: calls on series", () -> eachOf(RefusedCallsTest::some, onSeries()));
    Checks.test("refused: calls on dates of series", () -> eachOf(RefusedCallsTest::some, onDates()));
    Checks.test("refused: calls on work", () -> eachOf(RefusedCallsTest::some, onWork()));
    Checks.test("refused: calls for which there is no room", () -> eachOf(RefusedCallsTest::full, onFull()));
    Checks.test("refused: calls on a full object", RefusedCallsTest::allOnFull);
    Checks.test("refused: calls on a new object", () -> eachOf(ZoneCalendar::new, onNew()));
    Checks.test("refused: many calls, one behind another", RefusedCallsTest::manyRefused);
  }

  /** Three patterns, two places with turns, two series, two feasts; each has room for more. */
  private static ZoneCalendar some() {
    ZoneCalendar x = new ZoneCalendar();
    x.addPattern(3, 15, 1);
    x.addPattern(10, 15, 1);
    x.addPattern(0, 0, 15);
    x.addPlace(60);
    x.addPlace(-300);
    x.addTurn(0, 1980, 2099, 0, 60, 2, 60);
    x.addTurn(0, 1980, 2099, 1, 60, 2, 0);
    x.addTurn(1, 1999, 2001, 0, 120, 0, 90);
    x.addSeries(0, 1440 * BEGIN + 150, 0, 2, 0);
    x.addSeries(1, 1440 * BEGIN + 600, 2, 1, 31);
    x.usePattern(1, 2);
    x.setChoice(1, -1);
    x.setMost(0, 100);
    x.setLast(1, BEGIN + 2000);
    x.except(0, BEGIN + 4);
    x.setWorkPlace(1);
    x.setWeek(63);
    x.setHours(600, 1000);
    x.addFeast(1990, 2010, 2, 3);
    x.addFeast(1999, 2000, 1, 1);
    return x;
  }

  /** As many as can be of everything. */
  private static ZoneCalendar full() {
    ZoneCalendar x = new ZoneCalendar();
    for (int k = 0; k < 23; k++) {
      x.addPattern(1 + k % 12, 2 + k % 14, 1 + k % 4);
    }
    x.addPattern(0, 0, 15);
    for (int k = 0; k < 6; k++) {
      x.addPlace(60 * k);
      x.addSeries(k, 1440 * BEGIN + 600, k % 4, 1 + k, 0);
      for (int turn = 0; turn < 6; turn++) {
        x.addTurn(k, 1990, 2010, turn + k, 60, turn % 3, 10 * turn);
      }
    }
    for (int k = 0; k < 4; k++) {
      x.usePattern(5, k);
    }
    for (int k = 0; k < 8; k++) {
      x.except(0, BEGIN + 2 * k);
    }
    for (int k = 0; k < 20; k++) {
      x.addFeast(1990, 2010, k, k % 4);
    }
    x.setWorkPlace(5);
    return x;
  }

  private static Object outcome(ZoneCalendar x, String name, int... args) {
    Class<?>[] types = new Class<?>[args.length];
    Arrays.fill(types, int.class);
    Object[] boxed = Arrays.stream(args).boxed().toArray();
    try {
      Method method = ZoneCalendar.class.getMethod(name, types);
      return method.invoke(x, boxed);
    } catch (InvocationTargetException thrown) {
      return thrown.getCause().getClass();
    } catch (ReflectiveOperationException thrown) {
      throw new IllegalStateException(thrown);
    }
  }

  private static void eachOf(Builder builder, List<Refused> calls) {
    List<Object> due = answers(builder.build());
    for (Refused each : calls) {
      ZoneCalendar x = builder.build();
      Checks.due(each.toString(), outcome(x, each.name, each.args), each.due);
      Checks.due("what there is behind " + each, answers(x), due);
    }
  }

  /** What has wrong arguments is so of a full object, too; what is not there may be there of that. */
  private static void allOnFull() {
    List<Refused> calls = new ArrayList<>();
    for (List<Refused> each : List.of(onDays(), onPatterns(), onPlaces(), onSeries(), onWork())) {
      calls.addAll(each.stream().filter(call -> call.due == ARGUMENT).toList());
    }
    eachOf(RefusedCallsTest::full, calls);
  }

  private static void manyRefused() {
    ZoneCalendar x = some();
    List<Refused> calls = new ArrayList<>();
    calls.addAll(onPatterns());
    calls.addAll(onPlaces());
    for (Refused each : calls) {
      Checks.due(each.toString(), outcome(x, each.name, each.args), each.due);
    }
    Checks.due("what there is behind all", answers(x), answers(some()));
    ZoneCalendar y = some();
    calls.clear();
    calls.addAll(onSeries());
    calls.addAll(onWork());
    for (Refused each : calls) {
      Checks.due(each.toString(), outcome(y, each.name, each.args), each.due);
    }
    Checks.due("what there is behind all", answers(y), answers(some()));
  }

  /** What an object answers to all kinds of calls; those that change something come last. */
  private static List<Object> answers(ZoneCalendar x) {
    List<Object> all = new ArrayList<>();
    all.add(x.digest());
    for (int k = 0; k <= 24; k++) {
      all.add(outcome(x, "nextTold", k, BEGIN));
    }
    for (int k = 0; k <= 6; k++) {
      all.add(outcome(x, "localAt", k, 1440 * BEGIN + 200000));
      all.add(outcome(x, "nextChange", k, 1440 * BEGIN));
      all.add(outcome(x, "nextChange", k, 1440 * BEGIN + 200000));
    }
    for (int k = 0; k <= 6; k++) {
      all.add(outcome(x, "dates", k));
      all.add(outcome(x, "dateAt", k, 0));
      all.add(outcome(x, "dateAt", k, 10));
      all.add(outcome(x, "dateMoment", k, 1));
      all.add(outcome(x, "meanGap", k));
    }
    for (int day = BEGIN; day < BEGIN + 80; day++) {
      all.add(x.feastOn(day));
    }
    for (int k = 0; k < 6; k++) {
      all.add(x.workWithin(1440 * (BEGIN + k) + 200, 700));
    }
    addChanges(x, all);
    return all;
  }

  private static void addChanges(ZoneCalendar x, List<Object> all) {
    for (int k = 0; k <= 6; k++) {
      all.add(outcome(x, "setChoice", k, 0));
      all.add(outcome(x, "setMost", k, 0));
      all.add(outcome(x, "setLast", k, BEGIN + 9));
      all.add(outcome(x, "except", k, BEGIN + 1));
      all.add(outcome(x, "usePattern", k, 0));
      all.add(outcome(x, "addTurn", k, 2000, 2000, 0, 0, 0, 0));
      all.add(outcome(x, "dates", k));
    }
    all.add(outcome(x, "setWorkPlace", 0));
    all.add(x.setWeek(127));
    all.add(outcome(x, "addPattern", 1, 0, 1));
    all.add(outcome(x, "addPlace", 0));
    all.add(outcome(x, "addSeries", 0, 0, 0, 1, 0));
    all.add(outcome(x, "addFeast", 2000, 2000, 0, 0));
    all.add(x.digest());
  }

  private static Refused index(String name, int... args) {
    return new Refused(INDEX, name, args);
  }

  private static Refused argument(String name, int... args) {
    return new Refused(ARGUMENT, name, args);
  }

  private static Refused state(String name, int... args) {
    return new Refused(STATE, name, args);
  }

  private static List<Refused> onDays() {
    List<Refused> calls = new ArrayList<>();
    for (String name : new String[] {"yearOf", "monthOf", "dayOfMonth", "weekdayOf", "weekOf", "yearOfWeek"}) {
      for (int none : new int[] {-1, LAST_DAY + 1, MIN, MAX}) {
        calls.add(index(name, none));
      }
    }
    calls.addAll(List.of(
        argument("dayOf", 1899, 12, 31), argument("dayOf", 2100, 1, 1), argument("dayOf", 2000, 0, 1),
        argument("dayOf", 2000, 13, 1), argument("dayOf", 2000, 1, 0), argument("dayOf", 2000, 1, 32),
        argument("dayOf", 1900, 2, 29), argument("dayOf", 2000, 4, 31), argument("dayOf", MIN, MAX, MIN),
        argument("easterOf", 1899), argument("easterOf", 2100), argument("easterOf", MAX),
        index("plusMonths", -1, 0), index("plusMonths", LAST_DAY + 1, 0), argument("plusMonths", 0, -1),
        argument("plusMonths", LAST_DAY, 1), argument("plusMonths", 0, MIN), argument("plusMonths", LAST_DAY, MAX)));
    return calls;
  }

  private static List<Refused> onPatterns() {
    List<Refused> calls = new ArrayList<>(List.of(
        argument("addPattern", -1, 0, 1), argument("addPattern", 13, 0, 1), argument("addPattern", MIN, 0, 1),
        argument("addPattern", 0, -1, 1), argument("addPattern", 0, 17, 1), argument("addPattern", 0, MAX, 1),
        argument("addPattern", 0, 0, 0), argument("addPattern", 0, 0, 32), argument("addPattern", 0, 1, 32),
        argument("addPattern", 0, 2, 6), argument("addPattern", 0, 15, 6), argument("addPattern", 0, 16, 201),
        argument("addPattern", 0, 16, 0), argument("addPattern", 1, 16, 1), argument("addPattern", 12, 16, 200)));
    for (int none : new int[] {-1, 3, MIN, MAX}) {
      calls.add(index("daysTold", none, 2000));
      calls.add(index("daysTold", none, 1899));
      calls.add(index("tells", none, 0));
      calls.add(index("nextTold", none, 0));
    }
    for (int none : new int[] {-1, LAST_DAY + 1, MIN, MAX}) {
      calls.add(index("tells", 0, none));
      calls.add(index("nextTold", 0, none));
      calls.add(argument("daysTold", 0, none));
    }
    calls.add(argument("daysTold", 0, 1899));
    calls.add(argument("daysTold", 0, 2100));
    return calls;
  }

  private static List<Refused> onPlaces() {
    List<Refused> calls = new ArrayList<>(List.of(
        argument("addPlace", -841), argument("addPlace", 841), argument("addPlace", MIN), argument("addPlace", MAX),
        argument("addTurn", 0, 1899, 2000, 0, 0, 0, 0), argument("addTurn", 0, 2100, 2100, 0, 0, 0, 0),
        argument("addTurn", 0, 2000, 1999, 0, 0, 0, 0), argument("addTurn", 0, 2000, 2100, 0, 0, 0, 0),
        argument("addTurn", 0, 2000, 2000, 0, -1, 0, 0), argument("addTurn", 0, 2000, 2000, 0, 1440, 0, 0),
        argument("addTurn", 0, 2000, 2000, 0, 0, -1, 0), argument("addTurn", 0, 2000, 2000, 0, 0, 3, 0),
        argument("addTurn", 0, 2000, 2000, 0, 0, 0, -1), argument("addTurn", 0, 2000, 2000, 0, 0, 0, 181)));
    for (int none : new int[] {-1, 2, MIN, MAX}) {
      calls.add(index("addTurn", none, 2000, 2000, 0, 0, 0, 0));
      calls.add(index("addTurn", none, 1899, 2000, 0, 0, 0, 0));
      calls.add(index("savingAt", none, 0));
      calls.add(index("localAt", none, 0));
      calls.add(index("nextChange", none, 0));
      calls.add(index("showsOften", none, 0));
      calls.add(index("momentOf", none, 0));
      calls.add(index("lastMomentOf", none, 0));
      calls.add(index("ahead", none, 0, 0));
      calls.add(index("ahead", 0, none, 0));
    }
    for (int none : new int[] {-1, 3, MIN, MAX}) {
      calls.add(index("addTurn", 0, 2000, 2000, none, 0, 0, 0));
      calls.add(index("addTurn", 0, 2000, 2000, none, 0, 0, 181));
    }
    for (int none : new int[] {-1, LAST_MOMENT + 1, MIN, MAX}) {
      calls.add(index("savingAt", 0, none));
      calls.add(index("localAt", 0, none));
      calls.add(index("nextChange", 0, none));
      calls.add(index("ahead", 0, 1, none));
    }
    return calls;
  }

  private static List<Refused> onSeries() {
    List<Refused> calls = new ArrayList<>(List.of(
        argument("addSeries", 0, -1, 0, 1, 0), argument("addSeries", 0, LAST_MOMENT + 1, 0, 1, 0),
        argument("addSeries", 0, 0, -1, 1, 0), argument("addSeries", 0, 0, 4, 1, 0),
        argument("addSeries", 0, 0, 0, 0, 0), argument("addSeries", 0, 0, 0, 61, 0),
        argument("addSeries", 0, 0, 0, 1, -1), argument("addSeries", 0, 0, 0, 1, 128),
        argument("setChoice", 0, -7), argument("setChoice", 1, 7), argument("setChoice", 1, MIN),
        argument("setMost", 0, -1), argument("setMost", 1, 501), argument("setMost", 1, MAX),
        argument("setLast", 0, BEGIN - 1), argument("setLast", 1, BEGIN + 4001), argument("setLast", 0, MIN),
        argument("setLast", 1, MAX), index("except", 0, -1), index("except", 1, LAST_DAY + 1)));
    for (int none : new int[] {-1, 2, MIN, MAX}) {
      calls.add(index("addSeries", none, 0, 0, 1, 0));
      calls.add(index("addSeries", none, -1, 4, 0, 128));
      calls.add(index("usePattern", none, 0));
      calls.add(index("setChoice", none, 0));
      calls.add(index("setChoice", none, 7));
      calls.add(index("setMost", none, 0));
      calls.add(index("setMost", none, 501));
      calls.add(index("setLast", none, BEGIN));
      calls.add(index("setLast", none, -1));
      calls.add(index("except", none, 0));
    }
    for (int none : new int[] {-1, 3, MIN, MAX}) {
      calls.add(index("usePattern", 0, none));
    }
    return calls;
  }

  private static List<Refused> onDates() {
    List<Refused> calls = new ArrayList<>();
    for (int none : new int[] {-1, 2, MIN, MAX}) {
      for (String name : new String[] {"dates", "widestGap", "meanGap"}) {
        calls.add(index(name, none));
      }
      for (String name : new String[] {"dateAt", "dateMoment", "dateFrom"}) {
        calls.add(index(name, none, 0));
      }
      calls.add(index("common", none, 0));
      calls.add(index("common", 0, none));
    }
    // Of series 0 there are 99 dates: 100 less an exception.
    for (int none : new int[] {-1, 99, 4001, MIN, MAX}) {
      calls.add(index("dateAt", 0, none));
      calls.add(index("dateMoment", 0, none));
    }
    for (int none : new int[] {-1, LAST_DAY + 1, MIN, MAX}) {
      calls.add(index("dateFrom", 0, none));
    }
    return calls;
  }

  private static List<Refused> onWork() {
    List<Refused> calls = new ArrayList<>(List.of(
        argument("setWeek", 0), argument("setWeek", 128), argument("setWeek", -1), argument("setWeek", MAX),
        argument("setHours", -1, 10), argument("setHours", 1440, 1441), argument("setHours", 10, 10),
        argument("setHours", 10, 1441), argument("setHours", 10, MIN), argument("setHours", MAX, MIN),
        argument("addFeast", 1899, 2000, 0, 0), argument("addFeast", 2100, 2100, 0, 0),
        argument("addFeast", 2000, 1999, 0, 0), argument("addFeast", 2000, 2100, 0, 0),
        argument("addFeast", 2000, 2000, 0, -1), argument("addFeast", 2000, 2000, 0, 4),
        argument("workingDays", 0, -1), argument("workingDays", 0, 401), argument("workingDays", LAST_DAY, 2),
        argument("plusWorking", 0, -201), argument("plusWorking", 0, 201), argument("workWithin", 0, -1),
        argument("workWithin", 0, 50001), argument("workWithin", LAST_MOMENT, 2), argument("doneAt", 0, 0),
        argument("doneAt", 0, 10001)));
    for (int none : new int[] {-1, 2, MIN, MAX}) {
      calls.add(index("setWorkPlace", none));
    }
    for (int none : new int[] {-1, 3, MIN, MAX}) {
      calls.add(index("addFeast", 2000, 2000, none, 0));
      calls.add(index("addFeast", 1899, 2000, none, 4));
    }
    for (int none : new int[] {-1, LAST_DAY + 1, MIN, MAX}) {
      calls.add(index("feastOn", none));
      calls.add(index("isWorking", none));
      calls.add(index("workingDays", none, 0));
      calls.add(index("workingDays", none, 401));
      calls.add(index("plusWorking", none, 0));
      calls.add(index("plusWorking", none, 201));
    }
    for (int none : new int[] {-1, LAST_MOMENT + 1, MIN, MAX}) {
      calls.add(index("isWorkingMinute", none));
      calls.add(index("workWithin", none, 0));
      calls.add(index("workWithin", none, 50001));
      calls.add(index("doneAt", none, 1));
      calls.add(index("doneAt", none, 0));
    }
    return calls;
  }

  private static List<Refused> onFull() {
    return List.of(
        state("addPattern", 1, 0, 1), argument("addPattern", 0, 16, 0), argument("addPattern", 1, 16, 1),
        state("addPlace", 0), argument("addPlace", 841), state("addTurn", 0, 2000, 2000, 0, 0, 0, 0),
        state("addTurn", 5, 1900, 2099, 22, 1439, 2, 180), argument("addTurn", 0, 2000, 2000, 23, 0, 0, 0),
        argument("addTurn", 0, 2000, 2000, 0, 0, 0, 181), index("addTurn", 6, 2000, 2000, 0, 0, 0, 0),
        index("addTurn", 0, 2000, 2000, 24, 0, 0, 0), state("addSeries", 0, 0, 0, 1, 0),
        argument("addSeries", 0, 0, 0, 0, 0), index("addSeries", 6, 0, 0, 1, 0), state("usePattern", 5, 0),
        state("usePattern", 5, 23), index("usePattern", 5, 24), index("usePattern", 6, 0),
        state("except", 0, BEGIN + 1), state("except", 0, 0), state("except", 0, LAST_DAY),
        index("except", 0, LAST_DAY + 1), index("except", 6, BEGIN), state("addFeast", 2000, 2000, 0, 0),
        state("addFeast", 1900, 2099, 23, 3), argument("addFeast", 2000, 2000, 0, 4),
        index("addFeast", 2000, 2000, 24, 0), index("setWorkPlace", 6), index("dates", 6), index("common", 0, 6),
        index("ahead", 6, 0, 0), index("ahead", 0, 6, 0), index("daysTold", 24, 2000));
  }

  private static List<Refused> onNew() {
    return List.of(
        index("daysTold", 0, 2000), index("tells", 0, 0), index("nextTold", 0, 0),
        index("addTurn", 0, 2000, 2000, 0, 0, 0, 0), index("savingAt", 0, 0), index("localAt", 0, 0),
        index("nextChange", 0, 0), index("showsOften", 0, 0), index("momentOf", 0, 0), index("lastMomentOf", 0, 0),
        index("ahead", 0, 0, 0), index("addSeries", 0, 0, 0, 1, 0), index("usePattern", 0, 0),
        index("setChoice", 0, 0), index("setMost", 0, 0), index("setLast", 0, 0), index("except", 0, 0),
        index("dates", 0), index("dateAt", 0, 0), index("dateFrom", 0, 0), index("dateMoment", 0, 0),
        index("common", 0, 0), index("widestGap", 0), index("meanGap", 0), index("setWorkPlace", 0),
        index("addFeast", 2000, 2000, 0, 0));
  }
}
