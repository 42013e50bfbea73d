import java.lang.reflect.InvocationTargetException;
import java.lang.reflect.Method;
import java.util.ArrayList;
import java.util.Arrays;
import java.util.HashMap;
import java.util.List;
import java.util.Map;
import java.util.Random;

/** Runs of up to 512 drawn calls, the same for the program and for the slow calendar, always from the same seeds. */
final class RandomRunsTest {
  private static final int CALLS = 512;

  /** Each method with the kinds of its arguments, and how often it is drawn: when much is built, and later. */
  private static final String[] METHODS = {
    "dayOf 1 2 year month dom", "yearOf 1 2 day", "monthOf 1 2 day", "dayOfMonth 1 2 day", "weekdayOf 1 2 day",
    "weekOf 1 2 day", "yearOfWeek 1 2 day", "easterOf 1 2 year", "plusMonths 1 4 day months",
    "addPattern 40 3 month kind number", "daysTold 2 6 pattern year", "tells 2 10 pattern day",
    "nextTold 2 8 pattern day",
    "addPlace 14 2 base", "addTurn 40 4 place year year pattern minute clock saving", "savingAt 2 10 place moment",
    "localAt 2 10 place moment", "nextChange 2 10 place moment", "showsOften 2 14 place local",
    "momentOf 2 16 place local", "lastMomentOf 2 14 place local", "ahead 2 6 place place moment",
    "addSeries 14 4 place begin small3 step weekdays", "usePattern 12 6 series pattern",
    "setChoice 4 10 series choice", "setMost 2 6 series most", "setLast 2 8 series day", "except 4 12 series day",
    "dates 2 10 series", "dateAt 2 16 series k", "dateFrom 2 12 series day", "dateMoment 2 16 series k",
    "common 2 8 series series", "widestGap 2 8 series",
    "setWorkPlace 2 4 place", "setWeek 3 4 week", "setHours 2 4 minute minute2",
    "addFeast 30 4 year year pattern small3", "feastOn 2 30 day", "isWorking 2 20 day",
    "workingDays 2 14 day days", "plusWorking 2 14 day more", "isWorkingMinute 2 14 moment",
    "workWithin 1 4 moment minutes", "doneAt 1 4 moment work", "meanGap 2 6 series", "digest 0 1"};

  private final Random random;
  private final ZoneCalendar program = new ZoneCalendar();
  private final SlowCalendar slow = new SlowCalendar();
  private final Map<String, Integer> made = new HashMap<>();
  private final int middleYear;
  private final boolean feastDense;

  private RandomRunsTest(int seed) {
    random = new Random(seed);
    middleYear = new int[] {1901, 1903, 1950, 2000, 2001, 2097, 2098}[seed % 7];
    feastDense = seed % 3 == 0;
  }

  static void run(int runs) {
    for (int seed = 0; seed < runs; seed++) {
      RandomRunsTest test = new RandomRunsTest(seed);
      Checks.test("drawn run " + seed, test::compare);
    }
  }

  private void compare() {
    List<String> told = new ArrayList<>();
    for (int n = 0; n < CALLS; n++) {
      String[] drawn = draw(n < 110 ? 1 : 2);
      Object[] args = new Object[drawn.length - 3];
      for (int k = 0; k < args.length; k++) {
        args[k] = argument(drawn[k + 3], args, k);
      }
      String call = drawn[0] + Arrays.toString(args);
      Object got = outcome(program, drawn[0], args);
      Object want = outcome(slow, drawn[0], args);
      told.add(call + " " + want);
      if (drawn[0].startsWith("add") && want instanceof Integer) {
        made.merge(drawn[0], 1, Integer::sum);
      }
      Checks.due(call, got, want);
      if (!want.equals(got)) {
        System.out.println(String.join("\n", told));
        return;
      }
    }
    Checks.due("digest", program.digest(), slow.digest());
  }

  private String[] draw(int weight) {
    int sum = 0;
    for (String method : METHODS) {
      sum += Integer.parseInt(method.split(" ")[weight]);
    }
    int left = random.nextInt(sum);
    for (String method : METHODS) {
      left -= Integer.parseInt(method.split(" ")[weight]);
      if (left < 0) {
        return method.split(" ");
      }
    }
    throw new IllegalStateException();
  }

  private static Object outcome(Object calendar, String name, Object[] args) {
    Class<?>[] types = new Class<?>[args.length];
    Arrays.fill(types, int.class);
    try {
      Method method = calendar.getClass().getDeclaredMethod(name, types);
      return method.invoke(calendar, args);
    } catch (InvocationTargetException thrown) {
      return thrown.getCause().getClass();
    } catch (ReflectiveOperationException thrown) {
      throw new IllegalStateException(thrown);
    }
  }

  private int from(int least, int greatest) {
    return least + random.nextInt(greatest - least + 1);
  }

  private boolean one(int of) {
    return random.nextInt(of) == 0;
  }

  private int of(int... values) {
    return values[random.nextInt(values.length)];
  }

  /** A number of a thing, which there mostly is. */
  private int thing(String adder) {
    int there = made.getOrDefault(adder, 0);
    if (there == 0 || one(40)) {
      return of(-1, there, there + 1, 30, Integer.MIN_VALUE, Integer.MAX_VALUE);
    }
    return random.nextInt(there);
  }

  /** Mostly a right value, seldom one just outside, or far off. */
  private int bounded(int least, int greatest) {
    if (one(60)) {
      return of(least - 1, greatest + 1, Integer.MIN_VALUE, Integer.MAX_VALUE);
    }
    return one(6) ? of(least, greatest) : from(least, greatest);
  }

  private int argument(String kind, Object[] ahead, int k) {
    switch (kind) {
      case "year":
        return year(k > 0 && ahead[k - 1] instanceof Integer ? (Integer) ahead[k - 1] : 1900, k);
      case "month":
        return one(3) ? 0 : bounded(0, 12);
      case "dom":
        return bounded(1, 31);
      case "day":
        return day();
      case "months":
        return one(20) ? of(Integer.MIN_VALUE, Integer.MAX_VALUE) : from(-2500, 2500);
      case "kind":
        return ahead[0].equals(0) && one(3) ? 16 : bounded(0, 15);
      case "number":
        return bounded(1, ahead[1].equals(16) ? 200 : ahead[1].equals(0) || ahead[1].equals(1) ? 31 : 5);
      case "pattern":
        return thing("addPattern");
      case "place":
        return thing("addPlace");
      case "series":
        return thing("addSeries");
      case "base":
        return one(3) ? of(-840, -60, 0, 60, 840) : bounded(-840, 840);
      case "minute":
        return one(4) ? of(0, 60, 540, 1439) : bounded(0, 1439);
      case "minute2":
        return one(4) ? of(1440, 1441) : from(0, 1440);
      case "clock":
        return bounded(0, 2);
      case "saving":
        return one(2) ? of(0, 60, 180) : bounded(0, 180);
      case "small3":
        return bounded(0, 3);
      case "moment":
        return moment();
      case "local":
        return local();
      case "begin":
        return begin();
      case "step":
        return one(2) ? of(1, 2, 3) : bounded(1, 60);
      case "weekdays":
        return one(3) ? bounded(0, 127) : of(0, 127);
      case "week":
        return feastDense ? 1 << random.nextInt(7) : bounded(1, 127);
      case "choice":
        return one(2) ? of(-1, 0, 0, 1) : bounded(-6, 6);
      case "most":
        return one(2) ? 0 : one(2) ? from(1, 20) : bounded(0, 500);
      case "k":
        return date((Integer) ahead[0]);
      case "days":
        return bounded(0, 400);
      case "more":
        return bounded(-200, 200);
      case "minutes":
        return one(4) ? from(0, 2000) : bounded(0, 50000);
      case "work":
        return one(4) ? from(1, 600) : bounded(1, 10000);
      default:
        throw new IllegalStateException(kind);
    }
  }

  private int year(int firstYear, int k) {
    if (one(60)) {
      return of(1899, 2100, Integer.MIN_VALUE, Integer.MAX_VALUE);
    }
    if (k == 2 && one(2) || k == 1 && one(2)) {
      return Math.max(1900, Math.min(2099, firstYear + random.nextInt(200)));
    }
    return Math.max(1900, Math.min(2099, middleYear + from(-3, 3)));
  }

  private int day() {
    if (one(30)) {
      return of(-1, SlowCalendar.LAST_DAY + 1, Integer.MIN_VALUE, Integer.MAX_VALUE);
    }
    if (one(12)) {
      return of(0, 1, 59, 364, SlowCalendar.LAST_DAY - 1, SlowCalendar.LAST_DAY, 36500 + random.nextInt(400));
    }
    if (one(12)) {
      return random.nextInt(SlowCalendar.LAST_DAY + 1);
    }
    int date = oneDate();
    if (date >= 0 && one(3)) {
      return date + from(0, 1);
    }
    int day = Math.max(0, Math.min(SlowCalendar.LAST_DAY, SlowCalendar.day(middleYear, 1, 1) + from(-800, 800)));
    int patterns = made.getOrDefault("addPattern", 0);
    if (patterns > 0 && one(2)) {
      int told = slow.nextTold(random.nextInt(patterns), day);
      return Math.max(0, Math.min(SlowCalendar.LAST_DAY, told < 0 ? day : told + (one(2) ? 0 : one(2) ? from(-3, 6) : from(0, 65))));
    }
    return day;
  }

  private int oneDate() {
    int series = made.getOrDefault("addSeries", 0);
    if (series == 0) {
      return -1;
    }
    int asked = random.nextInt(series);
    int dates = slow.dates(asked);
    return dates == 0 ? -1 : slow.dateAt(asked, random.nextInt(dates));
  }

  private int date(int series) {
    if (series < 0 || series >= made.getOrDefault("addSeries", 0)) {
      return 0;
    }
    int dates = slow.dates(series);
    return one(20) || dates == 0 ? of(-1, dates, 5000, Integer.MIN_VALUE) : of(0, dates - 1, random.nextInt(dates));
  }

  private int moment() {
    if (one(30)) {
      return of(-1, SlowCalendar.LAST_MOMENT + 1, Integer.MIN_VALUE, Integer.MAX_VALUE);
    }
    if (one(10)) {
      return of(0, 1, SlowCalendar.LAST_MOMENT - 1, SlowCalendar.LAST_MOMENT, SlowCalendar.LAST_MOMENT - 60000);
    }
    int places = made.getOrDefault("addPlace", 0);
    List<Integer> turns = places == 0 ? List.of() : slow.turnMoments(random.nextInt(places));
    if (!turns.isEmpty() && !one(3)) {
      int moment = turns.get(random.nextInt(turns.size())) + (one(2) ? from(-1, 1) : from(-200, 200));
      return Math.max(0, Math.min(SlowCalendar.LAST_MOMENT, moment));
    }
    return 1440 * Math.max(0, Math.min(SlowCalendar.LAST_DAY, day())) + random.nextInt(1440);
  }

  private int begin() {
    if (one(30)) {
      return of(-1, SlowCalendar.LAST_MOMENT, SlowCalendar.LAST_MOMENT + 1);
    }
    int day = SlowCalendar.day(middleYear, 1, 1) + from(-300, 300);
    return one(3) ? moment() : 1440 * Math.max(0, day) + random.nextInt(1440);
  }

  private int local() {
    if (one(20)) {
      return of(-1, 0, SlowCalendar.LAST_MOMENT, SlowCalendar.LAST_MOMENT + 1, Integer.MIN_VALUE, Integer.MAX_VALUE);
    }
    int places = made.getOrDefault("addPlace", 0);
    if (places == 0) {
      return moment();
    }
    int moment = Math.max(0, Math.min(SlowCalendar.LAST_MOMENT, moment()));
    return slow.localAt(random.nextInt(places), moment) + (one(2) ? from(-1, 1) : from(-180, 180));
  }
}
