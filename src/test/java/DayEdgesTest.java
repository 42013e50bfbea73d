import java.time.LocalDate;

/** Promises 1 to 14 and part 1 of the terms: each sentence that names an edge has a test of its own. */
final class DayEdgesTest {
  private static final int LAST_DAY = 73048;
  private static final int[] FAR_OFF = {Integer.MIN_VALUE, Integer.MAX_VALUE};

  private DayEdgesTest() {
  }

  static void run() {
    Checks.test("edge, 1: a new object has no patterns, places, series and feasts", DayEdgesTest::nothingAtFirst);
    Checks.test("edge, 1: a new object's work goes by the clock of no place", DayEdgesTest::noPlaceAtFirst);
    Checks.test("edge, terms: years are 1900 to 2099", DayEdgesTest::years);
    Checks.test("edge, terms: a leap day each fourth year, but for 1900", DayEdgesTest::leapDays);
    Checks.test("edge, terms: months are 1 to 12, and as long as everybody knows", DayEdgesTest::months);
    Checks.test("edge, terms: DAY 0 and DAY 73048", DayEdgesTest::firstAndLastDay);
    Checks.test("edge, terms: weekdays are 0 to 6", DayEdgesTest::weekdays);
    Checks.test("edge, 7: weeks begin on Monday, week 1 has January 4th", DayEdgesTest::weeks);
    Checks.test("edge, 7: the last week of a year is 52 or 53", DayEdgesTest::lastWeeks);
    Checks.test("edge, 8: the year of a week is that of its Thursday", DayEdgesTest::yearsOfWeeks);
    Checks.test("edge, 9: Easter, the earliest and the latest", DayEdgesTest::easters);
    Checks.test("edge, 10: the last day of the month, if it has no such day", DayEdgesTest::shortMonths);
    Checks.test("edge, 10: months over the end of a year", DayEdgesTest::monthsOverYears);
    Checks.test("edge, 10: months that leave the years", DayEdgesTest::monthsOutside);
    Checks.test("edge, 11: at most 24 patterns", DayEdgesTest::mostPatterns);
    Checks.test("edge, 11: the month of a pattern", DayEdgesTest::patternMonths);
    Checks.test("edge, 11: the kind of a pattern", DayEdgesTest::patternKinds);
    Checks.test("edge, 11: the number of a pattern", DayEdgesTest::patternNumbers);
    Checks.test("edge, 12: the day with a number, in months that have it", DayEdgesTest::daysByNumber);
    Checks.test("edge, 12: the last day but some, in months that have it", DayEdgesTest::daysFromBehind);
    Checks.test("edge, 12: a fifth weekday, in months that have it", DayEdgesTest::fifthWeekdays);
    Checks.test("edge, 12: a day by Easter, if it is one of this year", DayEdgesTest::daysByEaster);
    Checks.test("edge, 12: no such pattern or year", DayEdgesTest::daysToldRefused);
    Checks.test("edge, 13: the first and the last DAY of a weekday in a month", DayEdgesTest::weekdaysInMonth);
    Checks.test("edge, 13: DAY 0 and DAY 73048 are told", DayEdgesTest::tellsEnds);
    Checks.test("edge, 13: no such pattern or DAY", DayEdgesTest::tellsRefused);
    Checks.test("edge, 14: from this DAY on, this one too", DayEdgesTest::nextFromThisDay);
    Checks.test("edge, 14: over the end of a month and of years", DayEdgesTest::nextOverEnds);
    Checks.test("edge, 14: -1 without one", DayEdgesTest::nextWithout);
    Checks.test("edge, 14: no such pattern or DAY", DayEdgesTest::nextRefused);
  }

  private static int day(int year, int month, int day) {
    return SlowCalendar.day(year, month, day);
  }

  /** A calendar with one pattern, 0. */
  private static ZoneCalendar with(int month, int kind, int number) {
    ZoneCalendar x = new ZoneCalendar();
    Checks.due(x.addPattern(month, kind, number), 0);
    return x;
  }

  private static boolean isLeap(int year) {
    return year % 4 == 0 && year != 1900;
  }

  private static void nothingAtFirst() {
    ZoneCalendar x = new ZoneCalendar();
    Checks.noIndex(() -> x.daysTold(0, 2000));
    Checks.noIndex(() -> x.nextTold(0, 0));
    Checks.noIndex(() -> x.momentOf(0, 0));
    Checks.noIndex(() -> x.addTurn(0, 1900, 1900, 0, 0, 0, 0));
    Checks.noIndex(() -> x.addSeries(0, 0, 0, 1, 0));
    Checks.noIndex(() -> x.widestGap(0));
    Checks.noIndex(() -> x.addFeast(1900, 1900, 0, 0));
    Checks.noIndex(() -> x.setWorkPlace(0));
    Checks.due(x.feastOn(0), -1);
    Checks.due(x.feastOn(LAST_DAY), -1);
    // The first of each has the number 0.
    Checks.due(x.addPattern(1, 0, 1), 0);
    Checks.due(x.addPlace(0), 0);
    Checks.due(x.addTurn(0, 1900, 1900, 0, 0, 0, 0), 0);
    Checks.due(x.addSeries(0, 0, 0, 1, 0), 0);
    Checks.due(x.addFeast(1900, 1900, 0, 0), 0);
  }

  private static void noPlaceAtFirst() {
    ZoneCalendar x = new ZoneCalendar();
    // A place that is there is not yet the calendar's.
    x.addPlace(840);
    Checks.due(x.isWorkingMinute(539), false);
    Checks.due(x.isWorkingMinute(540), true);
    Checks.due(x.isWorkingMinute(1019), true);
    Checks.due(x.isWorkingMinute(1020), false);
    Checks.due(x.workWithin(0, 1440), 480);
    Checks.due(x.doneAt(0, 480), 1020);
    Checks.due(x.setWorkPlace(0), -1);
    Checks.due(x.isWorkingMinute(540), false);
  }

  private static void years() {
    ZoneCalendar x = new ZoneCalendar();
    Checks.due(x.dayOf(1900, 12, 31), 364);
    Checks.due(x.dayOf(1901, 1, 1), 365);
    Checks.due(x.dayOf(2099, 1, 1), LAST_DAY - 364);
    Checks.noArgument(() -> x.dayOf(1899, 12, 31));
    Checks.noArgument(() -> x.dayOf(2100, 1, 1));
    Checks.due(x.yearOf(364), 1900);
    Checks.due(x.yearOf(365), 1901);
    Checks.due(x.yearOf(LAST_DAY - 364), 2099);
    Checks.due(x.yearOf(LAST_DAY - 365), 2098);
    for (int year = 1900; year <= 2099; year++) {
      Checks.due(x.yearOf(x.dayOf(year, 1, 1)), year);
      Checks.due(x.yearOf(x.dayOf(year, 12, 31)), year);
    }
    for (int year : FAR_OFF) {
      Checks.noArgument(() -> x.dayOf(year, 1, 1));
      Checks.noArgument(() -> x.easterOf(year));
    }
  }

  private static void leapDays() {
    ZoneCalendar x = new ZoneCalendar();
    for (int year = 1900; year <= 2099; year++) {
      int asked = year;
      int february28th = x.dayOf(year, 2, 28);
      if (isLeap(year)) {
        Checks.due(x.dayOf(year, 2, 29), february28th + 1);
        Checks.due(x.dayOfMonth(february28th + 1), 29);
        Checks.due(x.dayOf(year, 3, 1), february28th + 2);
      } else {
        Checks.noArgument(() -> x.dayOf(asked, 2, 29));
        Checks.due(x.dayOfMonth(february28th + 1), 1);
        Checks.due(x.dayOf(year, 3, 1), february28th + 1);
      }
      Checks.noArgument(() -> x.dayOf(asked, 2, 30));
      Checks.due(x.dayOf(year, 12, 31) - x.dayOf(year, 1, 1), isLeap(year) ? 365 : 364);
    }
    Checks.due(x.dayOf(1900, 3, 1), 59);
    Checks.due(x.dayOf(1904, 2, 29), 1519);
    Checks.due(x.dayOf(2000, 2, 29), 36583);
    Checks.due(x.dayOf(2096, 2, 29), 71647);
  }

  private static void months() {
    ZoneCalendar x = new ZoneCalendar();
    int[] lengths = {31, 28, 31, 30, 31, 30, 31, 31, 30, 31, 30, 31};
    for (int year : new int[] {1900, 1901, 1904, 1999, 2000, 2098, 2099}) {
      for (int month = 1; month <= 12; month++) {
        int asked = month;
        int length = lengths[month - 1] + (month == 2 && isLeap(year) ? 1 : 0);
        int first = x.dayOf(year, month, 1);
        int last = x.dayOf(year, month, length);
        Checks.due(last, first + length - 1);
        Checks.due(x.monthOf(first), month);
        Checks.due(x.monthOf(last), month);
        Checks.due(x.dayOfMonth(first), 1);
        Checks.due(x.dayOfMonth(last), length);
        Checks.noArgument(() -> x.dayOf(year, asked, 0));
        Checks.noArgument(() -> x.dayOf(year, asked, length + 1));
        if (last < LAST_DAY) {
          Checks.due(x.monthOf(last + 1), month % 12 + 1);
          Checks.due(x.dayOfMonth(last + 1), 1);
        }
      }
      Checks.noArgument(() -> x.dayOf(year, 0, 1));
      Checks.noArgument(() -> x.dayOf(year, 13, 1));
    }
    for (int far : FAR_OFF) {
      Checks.noArgument(() -> x.dayOf(2000, far, 1));
      Checks.noArgument(() -> x.dayOf(2000, 1, far));
    }
  }

  private static void firstAndLastDay() {
    ZoneCalendar x = new ZoneCalendar();
    Checks.due(x.dayOf(1900, 1, 1), 0);
    Checks.due(x.yearOf(0), 1900);
    Checks.due(x.monthOf(0), 1);
    Checks.due(x.dayOfMonth(0), 1);
    Checks.due(x.weekdayOf(0), 0);
    Checks.due(x.weekOf(0), 1);
    Checks.due(x.yearOfWeek(0), 1900);
    Checks.due(x.plusMonths(0, 0), 0);
    Checks.due(x.dayOf(2099, 12, 31), LAST_DAY);
    Checks.due(x.yearOf(LAST_DAY), 2099);
    Checks.due(x.monthOf(LAST_DAY), 12);
    Checks.due(x.dayOfMonth(LAST_DAY), 31);
    Checks.due(x.weekdayOf(LAST_DAY), 3);
    Checks.due(x.weekOf(LAST_DAY), 53);
    Checks.due(x.yearOfWeek(LAST_DAY), 2099);
    Checks.due(x.plusMonths(LAST_DAY, 0), LAST_DAY);
    for (int none : new int[] {-1, LAST_DAY + 1, Integer.MIN_VALUE, Integer.MAX_VALUE}) {
      Checks.noIndex(() -> x.yearOf(none));
      Checks.noIndex(() -> x.monthOf(none));
      Checks.noIndex(() -> x.dayOfMonth(none));
      Checks.noIndex(() -> x.weekdayOf(none));
      Checks.noIndex(() -> x.weekOf(none));
      Checks.noIndex(() -> x.yearOfWeek(none));
      Checks.noIndex(() -> x.plusMonths(none, 0));
    }
  }

  private static void weekdays() {
    ZoneCalendar x = new ZoneCalendar();
    for (int day = 0; day < 15; day++) {
      Checks.due(x.weekdayOf(day), day % 7);
      Checks.due(x.weekdayOf(LAST_DAY - day), (3 + 14 - day) % 7);
    }
  }

  private static void weeks() {
    ZoneCalendar x = new ZoneCalendar();
    for (int year = 1900; year <= 2099; year++) {
      LocalDate fourth = LocalDate.of(year, 1, 4);
      int monday = day(year, 1, 4) - (fourth.getDayOfWeek().getValue() - 1);
      Checks.due(x.weekOf(day(year, 1, 4)), 1);
      Checks.due(x.weekOf(monday), 1);
      Checks.due(x.weekOf(monday + 6), 1);
      Checks.due(x.weekOf(monday + 7), 2);
      if (monday > 0) {
        Checks.due(x.weekOf(monday - 1) >= 52, true);
      }
    }
    // January 4th, 1999, is a Monday, so that the 3rd is not yet of week 1; January 4th, 1998, is a Sunday.
    Checks.due(x.weekOf(day(1999, 1, 3)), 53);
    Checks.due(x.weekOf(day(1999, 1, 4)), 1);
    Checks.due(x.weekOf(day(1997, 12, 28)), 52);
    Checks.due(x.weekOf(day(1997, 12, 29)), 1);
    Checks.due(x.weekOf(day(1998, 1, 4)), 1);
    Checks.due(x.weekOf(day(1998, 1, 5)), 2);
  }

  private static void lastWeeks() {
    ZoneCalendar x = new ZoneCalendar();
    for (int year = 1900; year <= 2099; year++) {
      // A year has a week 53 if it begins or ends with a Thursday.
      boolean isLong = x.weekdayOf(day(year, 1, 1)) == 3 || x.weekdayOf(day(year, 12, 31)) == 3;
      int december28th = day(year, 12, 28);
      Checks.due("the last week of " + year, x.weekOf(december28th), isLong ? 53 : 52);
      int sunday = december28th - x.weekdayOf(december28th) + 6;
      if (sunday < LAST_DAY) {
        Checks.due(x.weekOf(sunday), isLong ? 53 : 52);
        Checks.due(x.weekOf(sunday + 1), 1);
      }
    }
    Checks.due(x.weekOf(LAST_DAY - 3), 53);
    Checks.due(x.weekOf(LAST_DAY - 4), 52);
  }

  private static void yearsOfWeeks() {
    ZoneCalendar x = new ZoneCalendar();
    // December 31st, 1998, and January 1st, 1998, are Thursdays: all of their weeks are of 1998.
    Checks.due(x.yearOfWeek(day(1998, 12, 31)), 1998);
    Checks.due(x.yearOfWeek(day(1999, 1, 3)), 1998);
    Checks.due(x.yearOfWeek(day(1999, 1, 4)), 1999);
    Checks.due(x.yearOfWeek(day(1997, 12, 28)), 1997);
    Checks.due(x.yearOfWeek(day(1997, 12, 29)), 1998);
    // January 1st, 1999, is a Friday, 2000 a Saturday, 1995 a Sunday, 1996 a Monday, 1997 a Wednesday.
    Checks.due(x.yearOfWeek(day(1999, 1, 1)), 1998);
    Checks.due(x.yearOfWeek(day(2000, 1, 2)), 1999);
    Checks.due(x.yearOfWeek(day(2000, 1, 3)), 2000);
    Checks.due(x.yearOfWeek(day(1995, 1, 1)), 1994);
    Checks.due(x.yearOfWeek(day(1995, 12, 31)), 1995);
    Checks.due(x.yearOfWeek(day(1996, 1, 1)), 1996);
    Checks.due(x.yearOfWeek(day(1996, 12, 29)), 1996);
    Checks.due(x.yearOfWeek(day(1996, 12, 30)), 1997);
    // December 31st, 1900, is a Monday.
    Checks.due(x.yearOfWeek(363), 1900);
    Checks.due(x.yearOfWeek(364), 1901);
  }

  private static void easters() {
    ZoneCalendar x = new ZoneCalendar();
    // The earliest, the latest, those about the end of March, and those for which the formula has its 7 * (.. / 451).
    int[][] known = {
      {1913, 3, 23}, {2008, 3, 23}, {1943, 4, 25}, {2038, 4, 25}, {1907, 3, 31}, {2002, 3, 31}, {2024, 3, 31},
      {1923, 4, 1}, {2018, 4, 1}, {1954, 4, 18}, {1981, 4, 19}, {2049, 4, 18}, {2076, 4, 19}, {1900, 4, 15},
      {1999, 4, 4}, {2000, 4, 23}, {2099, 4, 12}};
    for (int[] each : known) {
      Checks.due("Easter of " + each[0], x.easterOf(each[0]), day(each[0], each[1], each[2]));
    }
    Checks.noArgument(() -> x.easterOf(1899));
    Checks.noArgument(() -> x.easterOf(2100));
  }

  private static void shortMonths() {
    ZoneCalendar x = new ZoneCalendar();
    for (int number = 27; number <= 31; number++) {
      Checks.due(x.plusMonths(day(2000, 1, number), 1), day(2000, 2, Math.min(number, 29)));
      Checks.due(x.plusMonths(day(2001, 1, number), 1), day(2001, 2, Math.min(number, 28)));
      Checks.due(x.plusMonths(day(1900, 1, number), 1), day(1900, 2, Math.min(number, 28)));
      Checks.due(x.plusMonths(day(2000, 3, number), -1), day(2000, 2, Math.min(number, 29)));
      Checks.due(x.plusMonths(day(2000, 3, number), 1), day(2000, 4, Math.min(number, 30)));
      Checks.due(x.plusMonths(day(2000, 7, number), 1), day(2000, 8, number));
    }
    // A day of a short month does not become the last one of a longer one.
    Checks.due(x.plusMonths(day(2000, 2, 29), 1), day(2000, 3, 29));
    Checks.due(x.plusMonths(day(2000, 2, 29), 12), day(2001, 2, 28));
    Checks.due(x.plusMonths(day(2000, 2, 29), 48), day(2004, 2, 29));
    Checks.due(x.plusMonths(day(2000, 2, 29), -1200), day(1900, 2, 28));
    Checks.due(x.plusMonths(day(2000, 4, 30), -1), day(2000, 3, 30));
  }

  private static void monthsOverYears() {
    ZoneCalendar x = new ZoneCalendar();
    Checks.due(x.plusMonths(day(1999, 12, 31), 1), day(2000, 1, 31));
    Checks.due(x.plusMonths(day(1999, 12, 31), 2), day(2000, 2, 29));
    Checks.due(x.plusMonths(day(2000, 1, 1), -1), day(1999, 12, 1));
    Checks.due(x.plusMonths(day(2000, 1, 31), -11), day(1999, 2, 28));
    Checks.due(x.plusMonths(day(2000, 1, 31), -12), day(1999, 1, 31));
    Checks.due(x.plusMonths(day(2000, 1, 31), -13), day(1998, 12, 31));
    Checks.due(x.plusMonths(day(2000, 1, 31), 11), day(2000, 12, 31));
    Checks.due(x.plusMonths(day(2000, 1, 31), 12), day(2001, 1, 31));
  }

  private static void monthsOutside() {
    ZoneCalendar x = new ZoneCalendar();
    int last = day(2099, 12, 1);
    Checks.due(x.plusMonths(30, 2399), LAST_DAY);
    Checks.noArgument(() -> x.plusMonths(30, 2400));
    Checks.noArgument(() -> x.plusMonths(30, -1));
    Checks.due(x.plusMonths(31, -1), 0);
    Checks.noArgument(() -> x.plusMonths(31, -2));
    Checks.due(x.plusMonths(last, -2399), 0);
    Checks.noArgument(() -> x.plusMonths(last, -2400));
    Checks.noArgument(() -> x.plusMonths(last, 1));
    Checks.due(x.plusMonths(last - 1, 1), day(2099, 12, 30));
    Checks.noArgument(() -> x.plusMonths(last - 1, 2));
    for (int far : FAR_OFF) {
      Checks.noArgument(() -> x.plusMonths(0, far));
      Checks.noArgument(() -> x.plusMonths(LAST_DAY, far));
      // The DAY is named first.
      Checks.noIndex(() -> x.plusMonths(-1, far));
      Checks.noIndex(() -> x.plusMonths(LAST_DAY + 1, far));
    }
  }

  private static void mostPatterns() {
    ZoneCalendar x = new ZoneCalendar();
    for (int k = 0; k < 24; k++) {
      int next = k;
      Checks.noIndex(() -> x.nextTold(next, 0));
      Checks.due(x.addPattern(1, 0, k + 1), k);
      Checks.due(x.nextTold(k, 0), k);
    }
    Checks.noState(() -> x.addPattern(1, 0, 1));
    Checks.noIndex(() -> x.nextTold(24, 0));
    // Of a full calendar too wrong arguments are named first.
    Checks.noArgument(() -> x.addPattern(-1, 0, 1));
    Checks.noArgument(() -> x.addPattern(0, -1, 1));
    Checks.noArgument(() -> x.addPattern(0, 0, 0));
    Checks.noArgument(() -> x.addPattern(1, 16, 1));
    Checks.due(x.nextTold(23, 0), 23);
  }

  private static void patternMonths() {
    for (int month = 1; month <= 12; month++) {
      ZoneCalendar x = with(month, 0, 1);
      Checks.due(x.daysTold(0, 2000), 1);
      Checks.due(x.tells(0, day(2000, month, 1)), true);
    }
    Checks.due(with(0, 0, 1).daysTold(0, 2000), 12);
    ZoneCalendar x = new ZoneCalendar();
    for (int kind : new int[] {0, 1, 2, 15}) {
      Checks.noArgument(() -> x.addPattern(-1, kind, 1));
      Checks.noArgument(() -> x.addPattern(13, kind, 1));
      Checks.noArgument(() -> x.addPattern(Integer.MIN_VALUE, kind, 1));
      Checks.noArgument(() -> x.addPattern(Integer.MAX_VALUE, kind, 1));
    }
    // With kind 16 it has to be 0.
    for (int month = 1; month <= 12; month++) {
      int asked = month;
      Checks.noArgument(() -> x.addPattern(asked, 16, 100));
    }
    Checks.noArgument(() -> x.addPattern(-1, 16, 100));
    Checks.due(x.addPattern(0, 16, 100), 0);
  }

  private static void patternKinds() {
    for (int kind = 0; kind <= 16; kind++) {
      Checks.due(with(0, kind, 1).daysTold(0, 2000), kind < 16 ? 12 : 1);
    }
    ZoneCalendar x = new ZoneCalendar();
    for (int kind : new int[] {-1, 17, Integer.MIN_VALUE, Integer.MAX_VALUE}) {
      Checks.noArgument(() -> x.addPattern(0, kind, 1));
    }
  }

  private static void patternNumbers() {
    for (int kind = 0; kind <= 16; kind++) {
      int asked = kind;
      int greatest = kind < 2 ? 31 : kind < 16 ? 5 : 200;
      ZoneCalendar x = new ZoneCalendar();
      Checks.noArgument(() -> x.addPattern(0, asked, 0));
      Checks.noArgument(() -> x.addPattern(0, asked, -1));
      Checks.noArgument(() -> x.addPattern(0, asked, greatest + 1));
      Checks.noArgument(() -> x.addPattern(0, asked, Integer.MIN_VALUE));
      Checks.noArgument(() -> x.addPattern(0, asked, Integer.MAX_VALUE));
      Checks.due(x.addPattern(0, kind, 1), 0);
      Checks.due(x.addPattern(0, kind, greatest), 1);
    }
  }

  private static void toldAre(ZoneCalendar x, int in1900, int in1999, int in2000, int in2096) {
    Checks.due("days of 1900", x.daysTold(0, 1900), in1900);
    Checks.due("days of 1999", x.daysTold(0, 1999), in1999);
    Checks.due("days of 2000", x.daysTold(0, 2000), in2000);
    Checks.due("days of 2096", x.daysTold(0, 2096), in2096);
  }

  private static void daysByNumber() {
    toldAre(with(0, 0, 1), 12, 12, 12, 12);
    toldAre(with(0, 0, 28), 12, 12, 12, 12);
    toldAre(with(0, 0, 29), 11, 11, 12, 12);
    toldAre(with(0, 0, 30), 11, 11, 11, 11);
    toldAre(with(0, 0, 31), 7, 7, 7, 7);
    toldAre(with(2, 0, 28), 1, 1, 1, 1);
    toldAre(with(2, 0, 29), 0, 0, 1, 1);
    toldAre(with(2, 0, 30), 0, 0, 0, 0);
    toldAre(with(4, 0, 30), 1, 1, 1, 1);
    toldAre(with(4, 0, 31), 0, 0, 0, 0);
    toldAre(with(12, 0, 31), 1, 1, 1, 1);
    // The 31st of a month that has none is not the 1st of the next one.
    ZoneCalendar x = with(0, 0, 31);
    Checks.due(x.tells(0, day(2000, 4, 30)), false);
    Checks.due(x.tells(0, day(2000, 5, 1)), false);
    Checks.due(x.tells(0, day(2000, 5, 31)), true);
  }

  private static void daysFromBehind() {
    toldAre(with(0, 1, 28), 12, 12, 12, 12);
    toldAre(with(0, 1, 29), 11, 11, 12, 12);
    toldAre(with(0, 1, 30), 11, 11, 11, 11);
    toldAre(with(0, 1, 31), 7, 7, 7, 7);
    toldAre(with(2, 1, 29), 0, 0, 1, 1);
    toldAre(with(2, 1, 30), 0, 0, 0, 0);
    ZoneCalendar last = with(0, 1, 1);
    Checks.due(last.tells(0, day(1900, 2, 28)), true);
    Checks.due(last.tells(0, day(2000, 2, 28)), false);
    Checks.due(last.tells(0, day(2000, 2, 29)), true);
    Checks.due(last.tells(0, day(2000, 4, 30)), true);
    Checks.due(with(2, 1, 28).tells(0, day(1999, 2, 1)), true);
    Checks.due(with(2, 1, 29).tells(0, day(2000, 2, 1)), true);
    Checks.due(with(4, 1, 30).tells(0, day(2000, 4, 1)), true);
    Checks.due(with(0, 1, 31).tells(0, day(2000, 5, 1)), true);
    // The last day but 30 of a month that has 30 days is not the last one of the month ahead.
    Checks.due(with(0, 1, 31).tells(0, day(2000, 3, 31)), false);
  }

  private static void fifthWeekdays() {
    // February 2000 goes from a Tuesday to a Tuesday, and has five of these alone.
    for (int weekday = 0; weekday < 7; weekday++) {
      Checks.due(with(2, 2 + weekday, 5).daysTold(0, 2000), weekday == 1 ? 1 : 0);
      Checks.due(with(2, 9 + weekday, 5).daysTold(0, 2000), weekday == 1 ? 1 : 0);
      Checks.due(with(2, 2 + weekday, 4).daysTold(0, 2000), 1);
      Checks.due(with(2, 9 + weekday, 4).daysTold(0, 2000), 1);
      Checks.due(with(2, 2 + weekday, 5).daysTold(0, 1999), 0);
      Checks.due(with(2, 9 + weekday, 5).daysTold(0, 1999), 0);
    }
    Checks.due(with(2, 3, 5).tells(0, day(2000, 2, 29)), true);
    Checks.due(with(2, 10, 5).tells(0, day(2000, 2, 1)), true);
    // April 2000 has five Saturdays and Sundays; the fifth Monday from its front would be May 1st.
    Checks.due(with(4, 8, 5).tells(0, day(2000, 4, 30)), true);
    Checks.due(with(4, 15, 5).tells(0, day(2000, 4, 2)), true);
    Checks.due(with(4, 2, 5).daysTold(0, 2000), 0);
    Checks.due(with(0, 2, 5).tells(0, day(2000, 5, 1)), false);
    // The fifth Friday from behind would be March 31st.
    Checks.due(with(4, 13, 5).daysTold(0, 2000), 0);
    Checks.due(with(0, 13, 5).tells(0, day(2000, 3, 31)), false);
  }

  private static void daysByEaster() {
    // Easter of 1913 is the 82nd day of its year, of 2008, a leap year, the 83rd; of 1943 and 2038 the 115th.
    Checks.due(with(0, 16, 19).tells(0, day(1913, 1, 1)), true);
    Checks.due(with(0, 16, 18).daysTold(0, 1913), 0);
    Checks.due(with(0, 16, 18).tells(0, day(1912, 12, 31)), false);
    Checks.due(with(0, 16, 18).tells(0, day(2008, 1, 1)), true);
    Checks.due(with(0, 16, 17).daysTold(0, 2008), 0);
    Checks.due(with(0, 16, 1).daysTold(0, 1943), 1);
    Checks.due(with(0, 16, 1).tells(0, day(1943, 1, 16)), true);
    Checks.due(with(0, 16, 99).tells(0, day(2000, 4, 22)), true);
    Checks.due(with(0, 16, 100).tells(0, day(2000, 4, 23)), true);
    Checks.due(with(0, 16, 101).tells(0, day(2000, 4, 24)), true);
    Checks.due(with(0, 16, 200).tells(0, day(2038, 8, 3)), true);
    Checks.due(with(0, 16, 200).tells(0, day(2000, 8, 1)), true);
    // Over the end of a month, and of March, with Easter on the 31st.
    Checks.due(with(0, 16, 101).tells(0, day(2024, 4, 1)), true);
    Checks.due(with(0, 16, 99).tells(0, day(2018, 3, 31)), true);
    // The first and the last year.
    Checks.due(with(0, 16, 1).tells(0, 5), true);
    Checks.due(with(0, 16, 1).tells(0, day(2099, 1, 3)), true);
    Checks.due(with(0, 16, 200).tells(0, day(2099, 7, 21)), true);
    ZoneCalendar x = with(0, 16, 1);
    for (int year = 1900; year <= 2099; year++) {
      // With Easter on the 100th day or behind that it is a day of the year.
      int easter = x.easterOf(year) - day(year, 1, 1) + 1;
      Checks.due("days of " + year, x.daysTold(0, year), easter >= 100 ? 1 : 0);
    }
  }

  private static void daysToldRefused() {
    ZoneCalendar x = with(0, 0, 1);
    Checks.due(x.daysTold(0, 1900), 12);
    Checks.due(x.daysTold(0, 2099), 12);
    for (int year : new int[] {1899, 2100, Integer.MIN_VALUE, Integer.MAX_VALUE}) {
      Checks.noArgument(() -> x.daysTold(0, year));
      // The pattern is named first.
      Checks.noIndex(() -> x.daysTold(-1, year));
      Checks.noIndex(() -> x.daysTold(1, year));
    }
    for (int none : new int[] {-1, 1, 23, 24, Integer.MIN_VALUE, Integer.MAX_VALUE}) {
      Checks.noIndex(() -> x.daysTold(none, 2000));
    }
  }

  private static void weekdaysInMonth() {
    // The first of a weekday is on the 1st to the 7th, the fifth on the 29th to the 31st.
    for (int month = 1; month <= 12; month++) {
      for (int date = 1; date <= 7; date++) {
        int day = day(2000, month, date);
        int weekday = (day + 7) % 7;
        Checks.due(with(month, 2 + weekday, 1).tells(0, day), true);
        Checks.due(with(month, 2 + weekday, 2).tells(0, day + 7), true);
        int last = day(2000, month, LocalDate.of(2000, month, 1).lengthOfMonth()) + 1 - date;
        Checks.due(with(month, 9 + last % 7, 1).tells(0, last), true);
        Checks.due(with(month, 9 + last % 7, 2).tells(0, last - 7), true);
        Checks.due(with(month, 2 + weekday, 1).tells(0, day + 7), false);
        Checks.due(with(month, 9 + last % 7, 1).tells(0, last - 7), false);
      }
    }
  }

  private static void tellsEnds() {
    int[][] first = {{0, 0, 1}, {1, 0, 1}, {1, 1, 31}, {0, 2, 1}, {1, 9, 5}};
    int[][] last = {{0, 0, 31}, {12, 1, 1}, {12, 5, 5}, {0, 12, 1}};
    for (int[] each : first) {
      ZoneCalendar x = with(each[0], each[1], each[2]);
      Checks.due(x.tells(0, 0), true);
      Checks.due(x.tells(0, 1), false);
    }
    for (int[] each : last) {
      ZoneCalendar x = with(each[0], each[1], each[2]);
      Checks.due(x.tells(0, LAST_DAY), true);
      Checks.due(x.tells(0, LAST_DAY - 1), false);
    }
  }

  private static void tellsRefused() {
    ZoneCalendar x = with(0, 0, 1);
    for (int none : new int[] {-1, LAST_DAY + 1, Integer.MIN_VALUE, Integer.MAX_VALUE}) {
      Checks.noIndex(() -> x.tells(0, none));
      Checks.noIndex(() -> x.tells(1, none));
    }
    for (int none : new int[] {-1, 1, 23, 24, Integer.MIN_VALUE, Integer.MAX_VALUE}) {
      Checks.noIndex(() -> x.tells(none, 0));
    }
  }

  private static void nextFromThisDay() {
    ZoneCalendar x = with(0, 0, 15);
    Checks.due(x.nextTold(0, day(2000, 5, 14)), day(2000, 5, 15));
    Checks.due(x.nextTold(0, day(2000, 5, 15)), day(2000, 5, 15));
    Checks.due(x.nextTold(0, day(2000, 5, 16)), day(2000, 6, 15));
    Checks.due(with(1, 0, 1).nextTold(0, 0), 0);
    Checks.due(with(12, 0, 31).nextTold(0, LAST_DAY), LAST_DAY);
  }

  private static void nextOverEnds() {
    ZoneCalendar monthEnd = with(0, 0, 31);
    Checks.due(monthEnd.nextTold(0, day(2000, 1, 31)), day(2000, 1, 31));
    Checks.due(monthEnd.nextTold(0, day(2000, 2, 1)), day(2000, 3, 31));
    Checks.due(monthEnd.nextTold(0, day(2000, 6, 1)), day(2000, 7, 31));
    Checks.due(with(0, 0, 1).nextTold(0, day(1999, 12, 2)), day(2000, 1, 1));
    Checks.due(with(1, 0, 1).nextTold(0, 1), 365);
    ZoneCalendar leap = with(2, 0, 29);
    // There is none in 1900.
    Checks.due(leap.nextTold(0, 0), day(1904, 2, 29));
    Checks.due(leap.nextTold(0, day(1904, 3, 1)), day(1908, 2, 29));
    // Easter of 1913 and 2008 is too early for the 82nd and 83rd day ahead of it, that of the next year is not.
    ZoneCalendar early = with(0, 16, 18);
    Checks.due(early.nextTold(0, day(1913, 1, 1)), day(1914, 1, 20));
    Checks.due(early.nextTold(0, day(2008, 1, 1)), day(2008, 1, 1));
    Checks.due(with(0, 16, 17).nextTold(0, day(2008, 1, 1)), day(2009, 1, 19));
  }

  private static void nextWithout() {
    Checks.due(with(2, 0, 30).nextTold(0, 0), -1);
    Checks.due(with(4, 0, 31).nextTold(0, 0), -1);
    Checks.due(with(2, 1, 30).nextTold(0, 0), -1);
    Checks.due(with(1, 0, 1).nextTold(0, day(2099, 1, 1)), day(2099, 1, 1));
    Checks.due(with(1, 0, 1).nextTold(0, day(2099, 1, 2)), -1);
    Checks.due(with(12, 0, 30).nextTold(0, LAST_DAY - 1), LAST_DAY - 1);
    Checks.due(with(12, 0, 30).nextTold(0, LAST_DAY), -1);
    Checks.due(with(0, 16, 200).nextTold(0, day(2099, 7, 21)), day(2099, 7, 21));
    Checks.due(with(0, 16, 200).nextTold(0, day(2099, 7, 22)), -1);
  }

  private static void nextRefused() {
    ZoneCalendar x = with(0, 0, 1);
    for (int none : new int[] {-1, LAST_DAY + 1, Integer.MIN_VALUE, Integer.MAX_VALUE}) {
      Checks.noIndex(() -> x.nextTold(0, none));
      Checks.noIndex(() -> x.nextTold(1, none));
    }
    for (int none : new int[] {-1, 1, 23, 24, Integer.MIN_VALUE, Integer.MAX_VALUE}) {
      Checks.noIndex(() -> x.nextTold(none, 0));
    }
  }
}
