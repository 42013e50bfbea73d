import java.time.DayOfWeek;
import java.time.LocalDate;
import java.time.temporal.IsoFields;

/** Promises 1 to 10. Each DAY is held against the dates of the Java library. */
final class DaysTest {
  private static final int LAST_DAY = 73048;
  private static final LocalDate FIRST = LocalDate.of(1900, 1, 1);

  private DaysTest() {
  }

  static void run() {
    Checks.test("promise 1: a new object", DaysTest::newObject);
    Checks.test("promise 2: dayOf", DaysTest::dayOf);
    Checks.test("promise 3: yearOf", DaysTest::yearOf);
    Checks.test("promise 4: monthOf", DaysTest::monthOf);
    Checks.test("promise 5: dayOfMonth", DaysTest::dayOfMonth);
    Checks.test("promise 6: weekdayOf", DaysTest::weekdayOf);
    Checks.test("promise 7: weekOf", DaysTest::weekOf);
    Checks.test("promise 8: yearOfWeek", DaysTest::yearOfWeek);
    Checks.test("promise 9: easterOf", DaysTest::easterOf);
    Checks.test("promise 10: plusMonths", DaysTest::plusMonths);
  }

  private static void newObject() {
    ZoneCalendar x = new ZoneCalendar();
    Checks.noIndex(() -> x.tells(0, 0));
    Checks.noIndex(() -> x.savingAt(0, 0));
    Checks.noIndex(() -> x.dates(0));
    Checks.due(x.feastOn(36526), -1);
    // DAY 1 is a Tuesday: by the clock of no place it is worked from 540 to 1020.
    Checks.due(x.workWithin(1440, 1440), 480);
    Checks.due(x.isWorkingMinute(1440 + 540), true);
    Checks.due(x.isWorkingMinute(1440 + 539), false);
    Checks.due(x.isWorkingMinute(1440 + 1020), false);
    Checks.due(x.isWorking(4), true);
    Checks.due(x.isWorking(5), false);
    x.addPlace(60);
    Checks.due(x.setWorkPlace(0), -1);
    Checks.due(x.setWeek(31), 31);
    ZoneCalendar other = new ZoneCalendar();
    Checks.noIndex(() -> other.savingAt(0, 0));
  }

  private static void dayOf() {
    ZoneCalendar x = new ZoneCalendar();
    LocalDate date = FIRST;
    for (int day = 0; day <= LAST_DAY; day++) {
      Checks.due(x.dayOf(date.getYear(), date.getMonthValue(), date.getDayOfMonth()), day);
      date = date.plusDays(1);
    }
    Checks.due(x.dayOf(1900, 1, 1), 0);
    Checks.due(x.dayOf(2000, 2, 29), 36583);
    Checks.due(x.dayOf(2099, 12, 31), 73048);
    // 12 times 2^30 wraps around to 0.
    for (int year : new int[] {1899, 2100, 0, 1900 + (1 << 30), Integer.MIN_VALUE, Integer.MAX_VALUE}) {
      Checks.noArgument(() -> x.dayOf(year, 1, 1));
    }
    for (int month : new int[] {0, 13, -1, Integer.MIN_VALUE, Integer.MAX_VALUE}) {
      Checks.noArgument(() -> x.dayOf(2000, month, 1));
    }
    for (int day : new int[] {0, 32, -1, Integer.MIN_VALUE, Integer.MAX_VALUE}) {
      Checks.noArgument(() -> x.dayOf(2000, 1, day));
    }
    Checks.noArgument(() -> x.dayOf(1900, 2, 29));
    Checks.noArgument(() -> x.dayOf(1999, 2, 29));
    Checks.noArgument(() -> x.dayOf(2000, 2, 30));
    Checks.noArgument(() -> x.dayOf(2000, 4, 31));
    Checks.noArgument(() -> x.dayOf(2099, 12, 32));
  }

  private interface OfDay {
    Object answer(ZoneCalendar x, int day);
  }

  private interface OfDate {
    Object answer(LocalDate date);
  }

  /** Asks for all DAYS, and for some that are none. */
  private static void allDays(OfDay asked, OfDate due) {
    ZoneCalendar x = new ZoneCalendar();
    LocalDate date = FIRST;
    for (int day = 0; day <= LAST_DAY; day++) {
      Checks.due("DAY " + day, asked.answer(x, day), due.answer(date));
      date = date.plusDays(1);
    }
    for (int day : new int[] {-1, LAST_DAY + 1, Integer.MIN_VALUE, Integer.MAX_VALUE}) {
      Checks.noIndex(() -> asked.answer(x, day));
    }
  }

  private static void yearOf() {
    allDays(ZoneCalendar::yearOf, LocalDate::getYear);
  }

  private static void monthOf() {
    allDays(ZoneCalendar::monthOf, LocalDate::getMonthValue);
  }

  private static void dayOfMonth() {
    allDays(ZoneCalendar::dayOfMonth, LocalDate::getDayOfMonth);
  }

  private static void weekdayOf() {
    allDays(ZoneCalendar::weekdayOf, date -> date.getDayOfWeek().getValue() - 1);
  }

  private static void weekOf() {
    allDays(ZoneCalendar::weekOf, date -> date.get(IsoFields.WEEK_OF_WEEK_BASED_YEAR));
    ZoneCalendar x = new ZoneCalendar();
    Checks.due(x.weekOf(x.dayOf(2005, 1, 1)), 53);
    Checks.due(x.weekOf(x.dayOf(2007, 12, 31)), 1);
    Checks.due(x.weekOf(0), 1);
    Checks.due(x.weekOf(LAST_DAY), 53);
  }

  private static void yearOfWeek() {
    allDays(ZoneCalendar::yearOfWeek, date -> date.get(IsoFields.WEEK_BASED_YEAR));
    ZoneCalendar x = new ZoneCalendar();
    Checks.due(x.yearOfWeek(x.dayOf(2005, 1, 1)), 2004);
    Checks.due(x.yearOfWeek(x.dayOf(2007, 12, 31)), 2008);
  }

  private static void easterOf() {
    ZoneCalendar x = new ZoneCalendar();
    int[][] known = {
      {1900, 4, 15}, {1913, 3, 23}, {1943, 4, 25}, {1954, 4, 18}, {1981, 4, 19}, {2000, 4, 23},
      {2008, 3, 23}, {2024, 3, 31}, {2025, 4, 20}, {2038, 4, 25}, {2049, 4, 18}, {2099, 4, 12}};
    for (int[] date : known) {
      Checks.due("Easter of " + date[0], x.easterOf(date[0]), x.dayOf(date[0], date[1], date[2]));
    }
    for (int year = 1900; year <= 2099; year++) {
      Checks.due("Easter of " + year, x.easterOf(year), SlowCalendar.easter(year));
      Checks.due(FIRST.plusDays(x.easterOf(year)).getDayOfWeek() == DayOfWeek.SUNDAY, true);
    }
    for (int year : new int[] {1899, 2100, 0, Integer.MIN_VALUE, Integer.MAX_VALUE}) {
      Checks.noArgument(() -> x.easterOf(year));
    }
  }

  private static void plusMonths() {
    ZoneCalendar x = new ZoneCalendar();
    for (int day = 0; day <= LAST_DAY; day += 17) {
      for (int months : new int[] {-2399, -100, -13, -12, -1, 0, 1, 2, 11, 12, 37, 2399}) {
        LocalDate date = FIRST.plusDays(day).plusMonths(months);
        boolean inside = date.getYear() >= 1900 && date.getYear() <= 2099;
        Object want = inside ? (Object) (int) (date.toEpochDay() - FIRST.toEpochDay()) : IllegalArgumentException.class;
        int from = day;
        Checks.due(day + " and " + months, Checks.outcome(() -> x.plusMonths(from, months)), want);
      }
    }
    Checks.due(x.plusMonths(x.dayOf(2000, 1, 31), 1), x.dayOf(2000, 2, 29));
    Checks.due(x.plusMonths(x.dayOf(2001, 3, 31), -1), x.dayOf(2001, 2, 28));
    Checks.due(x.plusMonths(0, 2399), x.dayOf(2099, 12, 1));
    Checks.due(x.plusMonths(LAST_DAY, -2399), x.dayOf(1900, 1, 31));
    Checks.noArgument(() -> x.plusMonths(0, -1));
    Checks.noArgument(() -> x.plusMonths(0, 2400));
    Checks.noArgument(() -> x.plusMonths(LAST_DAY, 1));
    Checks.noArgument(() -> x.plusMonths(LAST_DAY, Integer.MAX_VALUE));
    Checks.noArgument(() -> x.plusMonths(0, Integer.MIN_VALUE));
    Checks.noIndex(() -> x.plusMonths(-1, 0));
    Checks.noIndex(() -> x.plusMonths(LAST_DAY + 1, 0));
    Checks.noIndex(() -> x.plusMonths(-1, Integer.MAX_VALUE));
  }
}
