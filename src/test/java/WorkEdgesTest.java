/** Promises 36 to 46, and part 4 of the terms: each sentence that names an edge has a test of its own. */
final class WorkEdgesTest {
  private static final int LAST_DAY = 73048;
  private static final int LAST_MOMENT = 105190559;
  private static final int STAY = 0;
  private static final int NEXT = 1;
  private static final int NEAREST = 2;
  private static final int NEXT_FREE = 3;
  private static final int MONDAY = 1;
  private static final int WEDNESDAY = 4;
  private static final int THURSDAY = 8;
  private static final int FRIDAY = 16;
  private static final int SATURDAY = 32;
  private static final int SUNDAY = 64;
  private static final int ALL = 127;
  private static final int[] FAR_OFF = {Integer.MIN_VALUE, Integer.MAX_VALUE};
  private static final int[] NO_DAYS = {-1, LAST_DAY + 1, Integer.MIN_VALUE, Integer.MAX_VALUE};
  private static final int[] NO_MOMENTS = {-1, LAST_MOMENT + 1, Integer.MIN_VALUE, Integer.MAX_VALUE};

  private WorkEdgesTest() {
  }

  static void run() {
    Checks.test("edge, 36: -1 without one before", WorkEdgesTest::workPlaces);
    Checks.test("edge, 36: no such place", WorkEdgesTest::workPlaceRefused);
    Checks.test("edge, 37: at first Monday to Friday", WorkEdgesTest::weekAtFirst);
    Checks.test("edge, 37: weekdays are 1 to 127", WorkEdgesTest::weeks);
    Checks.test("edge, 38: at first 540 and 1020", WorkEdgesTest::hoursAtFirst);
    Checks.test("edge, 38: the first minute is 0 to 1439", WorkEdgesTest::firstMinutes);
    Checks.test("edge, 38: the last minute is first + 1 to 1440", WorkEdgesTest::lastMinutes);
    Checks.test("edge, 39: at most 20 feasts", WorkEdgesTest::mostFeasts);
    Checks.test("edge, 39: no such pattern", WorkEdgesTest::feastWithoutPattern);
    Checks.test("edge, 39: the years of a feast", WorkEdgesTest::yearsRefused);
    Checks.test("edge, 39: the way is 0 to 3", WorkEdgesTest::ways);
    Checks.test("edge, 39: what is named first", WorkEdgesTest::firstNamed);
    Checks.test("edge, terms: a feast in each of its years, none ahead or behind", WorkEdgesTest::yearsOfFeast);
    Checks.test("edge, terms: on each day that the pattern tells", WorkEdgesTest::daysOfFeast);
    Checks.test("edge, terms: way 0 stays", WorkEdgesTest::stays);
    Checks.test("edge, terms: way 1 moves to the next working weekday", WorkEdgesTest::movesToNext);
    Checks.test("edge, terms: way 2 moves to the nearest, of two the later", WorkEdgesTest::movesToNearest);
    Checks.test("edge, terms: way 3 moves if it falls on no working weekday", WorkEdgesTest::movesFromFreeDay);
    Checks.test("edge, terms: way 3 moves if it falls on a smaller feast", WorkEdgesTest::movesFromFeast);
    Checks.test("edge, terms: way 3 heeds smaller feasts as they are moved", WorkEdgesTest::heedsMovedFeasts);
    Checks.test("edge, terms: way 3, the 60th day and the 61st", WorkEdgesTest::sixtyDays);
    Checks.test("edge, terms: two days of a feast that come to lie on one", WorkEdgesTest::fallsTogether);
    Checks.test("edge, terms: a feast does not give way to itself", WorkEdgesTest::staysByItself);
    Checks.test("edge, terms: moved to the year behind or ahead", WorkEdgesTest::movedOverYear);
    Checks.test("edge, terms: moved behind DAY 73048 a feast falls on none", WorkEdgesTest::movedBehindLast);
    Checks.test("edge, terms: moved ahead of DAY 0 a feast falls on none", WorkEdgesTest::movedAheadOfFirst);
    Checks.test("edge, terms: feasts move by the weekdays as they are now", WorkEdgesTest::movedAsNow);
    Checks.test("edge, 40: the smallest feast, -1 without one", WorkEdgesTest::smallestFeast);
    Checks.test("edge, 40: no such DAY", WorkEdgesTest::feastRefused);
    Checks.test("edge, 41: a working weekday without a feast", WorkEdgesTest::workingOrNot);
    Checks.test("edge, 41: no such DAY", WorkEdgesTest::workingRefused);
    Checks.test("edge, 42: from this one on, it counted", WorkEdgesTest::workingDaysFrom);
    Checks.test("edge, 42: days are 0 to 400", WorkEdgesTest::workingDaysMost);
    Checks.test("edge, 42: from + days is at most 73049", WorkEdgesTest::workingDaysAtLast);
    Checks.test("edge, 42: no such DAY", WorkEdgesTest::workingDaysRefused);
    Checks.test("edge, 43: itself for 0", WorkEdgesTest::plusNone);
    Checks.test("edge, 43: behind it, and ahead of it", WorkEdgesTest::plusOne);
    Checks.test("edge, 43: days are -200 to 200", WorkEdgesTest::plusMost);
    Checks.test("edge, 43: -1 if it is more than 500 days away", WorkEdgesTest::plusFarAway);
    Checks.test("edge, 43: -1 if it is none of 1900 to 2099", WorkEdgesTest::plusOutside);
    Checks.test("edge, 43: no such DAY", WorkEdgesTest::plusRefused);
    Checks.test("edge, 44: from the first minute on up to the last one, not included", WorkEdgesTest::minutesOfDay);
    Checks.test("edge, 44: not if the LOCAL time is on no DAY", WorkEdgesTest::minutesOnNoDay);
    Checks.test("edge, 44: no such MOMENT", WorkEdgesTest::minuteRefused);
    Checks.test("edge, 45: from this one on, it counted", WorkEdgesTest::withinFrom);
    Checks.test("edge, 45: minutes are 0 to 50000", WorkEdgesTest::withinMost);
    Checks.test("edge, 45: from + minutes is at most 105190560", WorkEdgesTest::withinAtLast);
    Checks.test("edge, 45: minutes that are passed and shown twice", WorkEdgesTest::withinTurns);
    Checks.test("edge, 45: the DAYS of a place far ahead and far behind", WorkEdgesTest::withinFarOff);
    Checks.test("edge, 45: no such MOMENT", WorkEdgesTest::withinRefused);
    Checks.test("edge, 46: from from on, and ahead of that MOMENT", WorkEdgesTest::doneFrom);
    Checks.test("edge, 46: work is 1 to 10000", WorkEdgesTest::doneMost);
    Checks.test("edge, 46: -1 if it is more than 50000 behind", WorkEdgesTest::doneFarAway);
    Checks.test("edge, 46: -1 if it is behind the last MOMENT", WorkEdgesTest::doneAtLast);
    Checks.test("edge, 46: no such MOMENT", WorkEdgesTest::doneRefused);
  }

  private static int day(int year, int month, int day) {
    return SlowCalendar.day(year, month, day);
  }

  /** A calendar with a feast in all years, 0, on a date. */
  private static ZoneCalendar feast(int week, int month, int date, int way) {
    ZoneCalendar x = new ZoneCalendar();
    x.setWeek(week);
    add(x, month, date, way);
    return x;
  }

  private static void add(ZoneCalendar x, int month, int date, int way) {
    x.addFeast(1900, 2099, x.addPattern(month, 0, date), way);
  }

  /** From a DAY up to another one the feast falls on these and on none else. */
  private static void fallsOn(ZoneCalendar x, int feast, int first, int last, int... days) {
    for (int day = first; day <= last; day++) {
      boolean due = false;
      for (int each : days) {
        due = due || each == day;
      }
      Checks.due("feast " + feast + " on DAY " + day, x.feastOn(day) == feast, due);
    }
    countedAsOneByOne(x, first, Math.min(400, last - first + 1));
  }

  /** Many days looked at in one call are those that are looked at one by one. */
  private static void countedAsOneByOne(ZoneCalendar x, int first, int days) {
    int count = 0;
    for (int day = first; day < first + days; day++) {
      count += x.isWorking(day) ? 1 : 0;
    }
    Checks.due("working days from " + first, x.workingDays(first, days), count);
  }

  private static void workPlaces() {
    ZoneCalendar x = new ZoneCalendar();
    for (int k = 0; k < 6; k++) {
      x.addPlace(-60 * k);
    }
    Checks.due(x.setWorkPlace(5), -1);
    Checks.due(x.isWorkingMinute(840), true);
    Checks.due(x.isWorkingMinute(839), false);
    Checks.due(x.setWorkPlace(0), 5);
    Checks.due(x.isWorkingMinute(540), true);
    Checks.due(x.setWorkPlace(0), 0);
    Checks.due(x.setWorkPlace(5), 0);
  }

  private static void workPlaceRefused() {
    ZoneCalendar x = new ZoneCalendar();
    Checks.noIndex(() -> x.setWorkPlace(0));
    x.addPlace(300);
    for (int none : new int[] {-1, 1, 5, 6, Integer.MIN_VALUE, Integer.MAX_VALUE}) {
      Checks.noIndex(() -> x.setWorkPlace(none));
    }
    Checks.due(x.isWorkingMinute(539), false);
    Checks.due(x.setWorkPlace(0), -1);
  }

  private static void weekAtFirst() {
    ZoneCalendar x = new ZoneCalendar();
    for (int day = 0; day < 14; day++) {
      Checks.due(x.isWorking(day), day % 7 < 5);
    }
    Checks.due(x.setWeek(1), 31);
  }

  private static void weeks() {
    ZoneCalendar x = new ZoneCalendar();
    for (int weekdays : new int[] {0, -1, 128, Integer.MIN_VALUE, Integer.MAX_VALUE}) {
      Checks.noArgument(() -> x.setWeek(weekdays));
    }
    Checks.due(x.setWeek(ALL), 31);
    Checks.due(x.workingDays(0, 7), 7);
    int before = ALL;
    for (int weekday = 0; weekday < 7; weekday++) {
      Checks.due(x.setWeek(1 << weekday), before);
      before = 1 << weekday;
      for (int day = 0; day < 14; day++) {
        Checks.due(x.isWorking(day), day % 7 == weekday);
      }
    }
  }

  private static void hoursAtFirst() {
    ZoneCalendar x = new ZoneCalendar();
    Checks.due(x.isWorkingMinute(539), false);
    Checks.due(x.isWorkingMinute(540), true);
    Checks.due(x.isWorkingMinute(1019), true);
    Checks.due(x.isWorkingMinute(1020), false);
  }

  private static void firstMinutes() {
    ZoneCalendar x = new ZoneCalendar();
    for (int first : new int[] {-1, 1440, Integer.MIN_VALUE, Integer.MAX_VALUE}) {
      Checks.noArgument(() -> x.setHours(first, 1440));
      Checks.noArgument(() -> x.setHours(first, first + 1));
    }
    Checks.due(x.workWithin(0, 1440), 480);
    Checks.due(x.setHours(0, 1), 1);
    Checks.due(x.isWorkingMinute(0), true);
    Checks.due(x.isWorkingMinute(1), false);
    Checks.due(x.setHours(1439, 1440), 1);
    Checks.due(x.isWorkingMinute(1438), false);
    Checks.due(x.isWorkingMinute(1439), true);
    Checks.due(x.isWorkingMinute(1440), false);
  }

  private static void lastMinutes() {
    ZoneCalendar x = new ZoneCalendar();
    for (int last : new int[] {700, 699, 0, -1, 1441, Integer.MIN_VALUE, Integer.MAX_VALUE}) {
      Checks.noArgument(() -> x.setHours(700, last));
    }
    Checks.noArgument(() -> x.setHours(0, 0));
    Checks.noArgument(() -> x.setHours(1439, 1439));
    Checks.noArgument(() -> x.setHours(1439, 1441));
    Checks.due(x.workWithin(0, 1440), 480);
    Checks.due(x.setHours(700, 701), 1);
    Checks.due(x.workWithin(0, 1440), 1);
    Checks.due(x.setHours(700, 1440), 740);
    Checks.due(x.workWithin(0, 1440), 740);
    Checks.due(x.setHours(0, 1440), 1440);
    Checks.due(x.workWithin(0, 1440), 1440);
  }

  private static void mostFeasts() {
    ZoneCalendar x = new ZoneCalendar();
    x.setWeek(ALL);
    for (int k = 0; k < 20; k++) {
      int pattern = x.addPattern(5, 0, k + 1);
      Checks.due(x.feastOn(day(2000, 5, k + 1)), -1);
      Checks.due(x.addFeast(2000, 2000, pattern, k % 4), k);
      Checks.due(x.feastOn(day(2000, 5, k + 1)), k);
    }
    int more = x.addPattern(5, 0, 21);
    for (int way = 0; way < 4; way++) {
      int asked = way;
      Checks.noState(() -> x.addFeast(2000, 2000, more, asked));
    }
    Checks.due(x.feastOn(day(2000, 5, 21)), -1);
    Checks.due(x.feastOn(day(2000, 5, 20)), 19);
  }

  private static void feastWithoutPattern() {
    ZoneCalendar x = new ZoneCalendar();
    Checks.noIndex(() -> x.addFeast(1900, 2099, 0, STAY));
    x.addPattern(0, 0, 1);
    for (int none : new int[] {-1, 1, 23, 24, Integer.MIN_VALUE, Integer.MAX_VALUE}) {
      Checks.noIndex(() -> x.addFeast(1900, 2099, none, STAY));
    }
    Checks.due(x.feastOn(0), -1);
    // A pattern with month 0 is right for a feast, though not for a turn.
    Checks.due(x.addFeast(1900, 2099, 0, STAY), 0);
    Checks.due(x.feastOn(0), 0);
    Checks.due(x.feastOn(31), 0);
  }

  private static void yearsRefused() {
    ZoneCalendar x = new ZoneCalendar();
    x.addPattern(5, 0, 1);
    for (int year : new int[] {1899, 2100, Integer.MIN_VALUE, Integer.MAX_VALUE}) {
      Checks.noArgument(() -> x.addFeast(year, 2099, 0, STAY));
      Checks.noArgument(() -> x.addFeast(1900, year, 0, STAY));
      Checks.noArgument(() -> x.addFeast(year, year, 0, STAY));
    }
    Checks.noArgument(() -> x.addFeast(1950, 1949, 0, STAY));
    Checks.noArgument(() -> x.addFeast(2099, 2098, 0, STAY));
    Checks.due(x.addFeast(1900, 1900, 0, STAY), 0);
    Checks.due(x.addFeast(2099, 2099, 0, STAY), 1);
    Checks.due(x.addFeast(1900, 2099, 0, STAY), 2);
    Checks.due(x.feastOn(day(1900, 5, 1)), 0);
    Checks.due(x.feastOn(day(1901, 5, 1)), 2);
    Checks.due(x.feastOn(day(2098, 5, 1)), 2);
    Checks.due(x.feastOn(day(2099, 5, 1)), 1);
  }

  private static void ways() {
    ZoneCalendar x = new ZoneCalendar();
    x.addPattern(5, 0, 1);
    for (int way : new int[] {-1, 4, Integer.MIN_VALUE, Integer.MAX_VALUE}) {
      Checks.noArgument(() -> x.addFeast(2000, 2000, 0, way));
    }
    Checks.due(x.feastOn(day(2000, 5, 1)), -1);
    Checks.due(x.addFeast(2000, 2000, 0, STAY), 0);
    Checks.due(x.addFeast(2000, 2000, 0, NEXT_FREE), 1);
    Checks.due(x.feastOn(day(2000, 5, 2)), 1);
  }

  private static void firstNamed() {
    ZoneCalendar x = new ZoneCalendar();
    x.addPattern(5, 0, 1);
    Checks.noIndex(() -> x.addFeast(1899, 2100, 1, 4));
    Checks.noArgument(() -> x.addFeast(1899, 2100, 0, 4));
    for (int k = 0; k < 20; k++) {
      x.addFeast(2000, 2000, 0, STAY);
    }
    Checks.noIndex(() -> x.addFeast(2000, 2000, 1, STAY));
    Checks.noArgument(() -> x.addFeast(1899, 2000, 0, STAY));
    Checks.noArgument(() -> x.addFeast(2000, 1999, 0, STAY));
    Checks.noArgument(() -> x.addFeast(2000, 2000, 0, 4));
    Checks.noState(() -> x.addFeast(2000, 2000, 0, STAY));
  }

  private static void yearsOfFeast() {
    ZoneCalendar x = new ZoneCalendar();
    x.addPattern(1, 0, 1);
    x.addPattern(12, 0, 31);
    x.addFeast(1999, 2001, 0, STAY);
    x.addFeast(1999, 2001, 1, STAY);
    fallsOn(x, 0, day(1997, 6, 1), day(2003, 6, 1), day(1999, 1, 1), day(2000, 1, 1), day(2001, 1, 1));
    fallsOn(x, 1, day(1997, 6, 1), day(2003, 6, 1), day(1999, 12, 31), day(2000, 12, 31), day(2001, 12, 31));
    // The first and the last year of all, and years in which the pattern tells none.
    ZoneCalendar y = feast(ALL, 2, 29, STAY);
    fallsOn(y, 0, 0, day(1909, 1, 1), day(1904, 2, 29), day(1908, 2, 29));
    fallsOn(y, 0, day(2090, 1, 1), LAST_DAY, day(2092, 2, 29), day(2096, 2, 29));
  }

  private static void daysOfFeast() {
    // The 31st of each month that has it, and the fifth Sunday of each month that has it.
    ZoneCalendar x = new ZoneCalendar();
    x.addPattern(0, 0, 31);
    x.addPattern(0, 8, 5);
    x.addFeast(2000, 2000, 0, STAY);
    fallsOn(x, 0, day(1999, 12, 1), day(2001, 2, 1), day(2000, 1, 31), day(2000, 3, 31), day(2000, 5, 31),
        day(2000, 7, 31), day(2000, 8, 31), day(2000, 10, 31), day(2000, 12, 31));
    ZoneCalendar y = new ZoneCalendar();
    y.addPattern(0, 8, 5);
    y.addFeast(2000, 2000, 0, NEXT);
    // January 30th, April 30th, July 30th, October 29th, December 31st: each moves to its Monday.
    fallsOn(y, 0, day(1999, 12, 1), day(2001, 2, 1), day(2000, 1, 31), day(2000, 5, 1), day(2000, 7, 31),
        day(2000, 10, 30), day(2001, 1, 1));
    // By Easter, if that is a day of the year.
    ZoneCalendar z = new ZoneCalendar();
    z.addPattern(0, 16, 18);
    z.addFeast(1912, 1914, 0, STAY);
    fallsOn(z, 0, day(1911, 6, 1), day(1915, 6, 1), day(1912, 1, 16), day(1914, 1, 20));
  }

  private static void stays() {
    int saturday = day(2000, 7, 1);
    for (int date = 1; date <= 7; date++) {
      ZoneCalendar x = feast(MONDAY, 7, date, STAY);
      fallsOn(x, 0, saturday - 9, saturday + 16, saturday + date - 1);
    }
    // On another feast, too.
    ZoneCalendar x = feast(31, 7, 3, STAY);
    add(x, 7, 3, STAY);
    fallsOn(x, 1, saturday - 3, saturday + 9);
    ZoneCalendar y = feast(31, 7, 1, STAY);
    add(y, 7, 3, STAY);
    fallsOn(y, 0, saturday - 3, saturday + 9, saturday);
    fallsOn(y, 1, saturday - 3, saturday + 9, saturday + 2);
  }

  private static void movesToNext() {
    // July 5th, 2000, is a Wednesday: with one working weekday alone it moves by 0 to 6.
    int wednesday = day(2000, 7, 5);
    for (int weekday = 0; weekday < 7; weekday++) {
      ZoneCalendar x = feast(1 << weekday, 7, 5, NEXT);
      fallsOn(x, 0, wednesday - 9, wednesday + 9, wednesday + (weekday + 5) % 7);
    }
    // Over the end of a month: June 30th, 2001, is a Saturday.
    fallsOn(feast(31, 6, 30, NEXT), 0, day(2001, 6, 1), day(2001, 7, 31), day(2001, 7, 2));
    // It does not heed another feast.
    ZoneCalendar x = feast(31, 7, 3, STAY);
    add(x, 7, 1, NEXT);
    fallsOn(x, 1, day(2000, 6, 20), day(2000, 7, 20));
    fallsOn(x, 0, day(2000, 6, 20), day(2000, 7, 20), day(2000, 7, 3));
  }

  private static void movesToNearest() {
    int wednesday = day(2000, 7, 5);
    // To Monday 2 ahead, to Saturday 3 behind, to Sunday 3 ahead.
    int[] moves = {-2, -1, 0, 1, 2, 3, -3};
    for (int weekday = 0; weekday < 7; weekday++) {
      ZoneCalendar x = feast(1 << weekday, 7, 5, NEAREST);
      fallsOn(x, 0, wednesday - 9, wednesday + 9, wednesday + moves[weekday]);
    }
    // Of two the later: Tuesday and Thursday, Monday and Friday, Sunday and Saturday.
    fallsOn(feast(2 + THURSDAY, 7, 5, NEAREST), 0, wednesday - 9, wednesday + 9, wednesday + 1);
    fallsOn(feast(MONDAY + FRIDAY, 7, 5, NEAREST), 0, wednesday - 9, wednesday + 9, wednesday + 2);
    fallsOn(feast(SUNDAY + SATURDAY, 7, 5, NEAREST), 0, wednesday - 9, wednesday + 9, wednesday + 3);
    // The one ahead is nearer: Tuesday and Friday.
    fallsOn(feast(2 + FRIDAY, 7, 5, NEAREST), 0, wednesday - 9, wednesday + 9, wednesday - 1);
    // On a working weekday it stays, though there is a feast; and it moves onto one.
    ZoneCalendar x = feast(31, 7, 5, STAY);
    add(x, 7, 5, NEAREST);
    fallsOn(x, 1, wednesday - 9, wednesday + 9);
    ZoneCalendar y = feast(31, 7, 3, STAY);
    add(y, 7, 2, NEAREST);
    fallsOn(y, 1, wednesday - 9, wednesday + 9);
    // So too from Wednesday ahead to Tuesday, on which there is one, though Monday is free.
    ZoneCalendar z = feast(MONDAY + 2, 7, 4, STAY);
    add(z, 7, 5, NEAREST);
    fallsOn(z, 1, wednesday - 9, wednesday + 9);
  }

  private static void movesFromFreeDay() {
    int wednesday = day(2000, 7, 5);
    for (int weekday = 0; weekday < 7; weekday++) {
      ZoneCalendar x = feast(1 << weekday, 7, 5, NEXT_FREE);
      fallsOn(x, 0, wednesday - 9, wednesday + 9, wednesday + (weekday + 5) % 7);
    }
    // From Saturday the 1st, on which there is no feast, over Monday the 3rd, on which there is one.
    ZoneCalendar x = feast(31, 7, 3, STAY);
    add(x, 7, 1, NEXT_FREE);
    fallsOn(x, 1, wednesday - 9, wednesday + 9, day(2000, 7, 4));
  }

  private static void movesFromFeast() {
    int monday = day(2000, 7, 3);
    // On a working weekday it moves from a smaller feast, not from a greater one, nor from none.
    ZoneCalendar x = feast(31, 7, 3, STAY);
    add(x, 7, 3, NEXT_FREE);
    fallsOn(x, 1, monday - 9, monday + 9, monday + 1);
    ZoneCalendar y = feast(31, 7, 3, NEXT_FREE);
    add(y, 7, 3, STAY);
    fallsOn(y, 0, monday - 9, monday + 9, monday);
    fallsOn(y, 1, monday - 9, monday + 9);
    fallsOn(feast(31, 7, 3, NEXT_FREE), 0, monday - 9, monday + 9, monday);
    // From Friday with a feast over the end of the week, and over Monday with a smaller one, but not a greater one.
    ZoneCalendar z = feast(31, 7, 7, STAY);
    add(z, 7, 10, STAY);
    add(z, 7, 7, NEXT_FREE);
    add(z, 7, 11, STAY);
    fallsOn(z, 2, monday - 9, monday + 19, day(2000, 7, 11));
    fallsOn(z, 3, monday - 9, monday + 19);
    // One behind another: each goes a day further.
    ZoneCalendar many = new ZoneCalendar();
    many.setWeek(ALL);
    many.addPattern(7, 0, 3);
    for (int k = 0; k < 20; k++) {
      many.addFeast(2000, 2000, 0, NEXT_FREE);
    }
    for (int k = 0; k < 22; k++) {
      Checks.due(many.feastOn(monday + k), k < 20 ? k : -1);
    }
  }

  private static void heedsMovedFeasts() {
    int monday = day(2000, 7, 3);
    // Feast 0 is told on Saturday the 1st, and moves to Monday the 3rd; Saturday is free then.
    ZoneCalendar x = feast(31, 7, 1, NEXT);
    add(x, 7, 3, NEXT_FREE);
    fallsOn(x, 1, monday - 9, monday + 9, monday + 1);
    fallsOn(x, 0, monday - 9, monday + 9, monday);
    // Feast 0 is told on Monday the 3rd, but moves to Tuesday, the one working weekday but Sunday.
    ZoneCalendar y = feast(2 + SUNDAY, 7, 3, NEXT);
    add(y, 7, 2, NEXT_FREE);
    add(y, 7, 4, NEXT_FREE);
    fallsOn(y, 0, monday - 9, monday + 9, monday + 1);
    fallsOn(y, 1, monday - 9, monday + 9, monday - 1);
    fallsOn(y, 2, monday - 9, monday + 9, monday + 6);
    // Way 2 from behind: feast 0 moves from Saturday the 8th ahead to Friday the 7th, on which feast 1 is told.
    ZoneCalendar z = feast(31, 7, 8, NEAREST);
    add(z, 7, 7, NEXT_FREE);
    fallsOn(z, 0, monday - 9, monday + 19, day(2000, 7, 7));
    fallsOn(z, 1, monday - 9, monday + 19, day(2000, 7, 10));
  }

  private static void sixtyDays() {
    // From Thursday, January 6th, 2000, on March 6th, a Monday, is the 60th day; the Mondays between are taken.
    int[][] mondays = {{1, 10}, {1, 17}, {1, 24}, {1, 31}, {2, 7}, {2, 14}, {2, 21}, {2, 28}};
    for (int date = 4; date <= 8; date++) {
      ZoneCalendar x = new ZoneCalendar();
      x.setWeek(MONDAY);
      for (int[] each : mondays) {
        x.addFeast(2000, 2000, x.addPattern(each[0], 0, each[1]), STAY);
      }
      x.addFeast(2000, 2000, x.addPattern(1, 0, date), NEXT_FREE);
      if (date < 6) {
        fallsOn(x, 8, day(1999, 11, 1), day(2000, 6, 1));
      } else {
        fallsOn(x, 8, day(1999, 11, 1), day(2000, 6, 1), day(2000, 3, 6));
      }
      Checks.due(x.isWorking(day(2000, 3, 6)), date < 6);
    }
    // So too in the first year.
    ZoneCalendar first = new ZoneCalendar();
    first.setWeek(MONDAY);
    for (int number = 1; number <= 4; number++) {
      first.addFeast(1900, 1900, first.addPattern(0, 2, number), STAY);
    }
    first.addFeast(1900, 1900, first.addPattern(1, 2, 5), STAY);
    first.addFeast(1900, 1900, first.addPattern(1, 0, 2), NEXT_FREE);
    first.addFeast(1900, 1900, first.addPattern(4, 0, 2), NEXT_FREE);
    // January 1900 has a fifth Monday, that is taken; the next one is April 30th.
    fallsOn(first, 5, 0, 400);
    fallsOn(first, 6, 0, 400, day(1900, 4, 30));
    Checks.due(first.feastOn(0), 0);
    // On none is not on DAY 0 either, a Monday on which no other feast falls; the next eight of these are taken.
    ZoneCalendar none = new ZoneCalendar();
    none.setWeek(MONDAY);
    for (int monday = 7; monday <= 56; monday += 7) {
      none.addFeast(1900, 1900, none.addPattern(none.monthOf(monday), 0, none.dayOfMonth(monday)), STAY);
    }
    none.addFeast(1900, 1900, none.addPattern(1, 0, 2), NEXT_FREE);
    fallsOn(none, 8, 0, 400);
    Checks.due(none.feastOn(0), -1);
    Checks.due(none.workingDays(0, 100), 15 - 8);
    Checks.due(none.plusWorking(100, -7), 0);
    // With one Monday between free it is that.
    ZoneCalendar y = new ZoneCalendar();
    y.setWeek(MONDAY);
    for (int k = 0; k < 7; k++) {
      y.addFeast(2000, 2000, y.addPattern(mondays[k][0], 0, mondays[k][1]), STAY);
    }
    y.addFeast(2000, 2000, y.addPattern(1, 0, 1), NEXT_FREE);
    fallsOn(y, 7, day(1999, 11, 1), day(2000, 6, 1), day(2000, 1, 3));
    y.addFeast(2000, 2000, y.addPattern(1, 0, 10), NEXT_FREE);
    fallsOn(y, 8, day(1999, 11, 1), day(2000, 6, 1), day(2000, 2, 28));
  }

  private static void fallsTogether() {
    // Feasts 0 to 3 take the first four Mondays of each month; feast 4 is told on each 1st of 2000.
    ZoneCalendar x = new ZoneCalendar();
    x.setWeek(MONDAY);
    for (int number = 1; number <= 4; number++) {
      x.addFeast(1900, 2099, x.addPattern(0, 2, number), STAY);
    }
    x.addFeast(2000, 2000, x.addPattern(0, 0, 1), NEXT_FREE);
    // January 1st moves to January 31st, April 1st and May 1st to May 29th, June 1st and July 1st to July 31st,
    // September 1st (the 59th day) and October 1st to October 30th, December 1st to January 29th, 2001 (the 59th).
    fallsOn(x, 4, day(1999, 6, 1), day(2001, 8, 1), day(2000, 1, 31), day(2000, 5, 29), day(2000, 7, 31),
        day(2000, 10, 30), day(2001, 1, 29));
  }

  private static void staysByItself() {
    // Feast 5 is told on each first Monday of 2000. Those of January are taken, so that January's goes to February 7th,
    // where February's is told: that one stays, for the feast there has no smaller number.
    ZoneCalendar x = new ZoneCalendar();
    x.setWeek(MONDAY);
    for (int number = 1; number <= 5; number++) {
      x.addFeast(2000, 2000, x.addPattern(1, 2, number), STAY);
    }
    x.addFeast(2000, 2000, x.addPattern(0, 2, 1), NEXT_FREE);
    fallsOn(x, 5, day(1999, 6, 1), day(2000, 5, 31), day(2000, 2, 7), day(2000, 3, 6), day(2000, 4, 3),
        day(2000, 5, 1));
  }

  private static void movedOverYear() {
    // December 31st, 2000, is a Sunday, January 1st, 2000, a Saturday.
    ZoneCalendar x = new ZoneCalendar();
    x.addFeast(2000, 2000, x.addPattern(12, 0, 31), NEXT);
    x.addFeast(2000, 2000, x.addPattern(1, 0, 1), NEAREST);
    fallsOn(x, 0, day(1999, 6, 1), day(2001, 12, 31), day(2001, 1, 1));
    fallsOn(x, 1, day(1999, 6, 1), day(2001, 12, 31), day(1999, 12, 31));
    // By way 2 a Sunday goes behind the year, too; by way 3 further still, if January 1st is taken.
    ZoneCalendar y = new ZoneCalendar();
    y.addFeast(2001, 2001, y.addPattern(1, 0, 1), STAY);
    int newYearsEve = y.addPattern(12, 0, 31);
    y.addFeast(2000, 2000, newYearsEve, NEXT_FREE);
    fallsOn(y, 1, day(1999, 6, 1), day(2001, 12, 31), day(2001, 1, 2));
    ZoneCalendar z = new ZoneCalendar();
    z.addFeast(2000, 2000, z.addPattern(12, 0, 31), NEAREST);
    fallsOn(z, 0, day(1999, 6, 1), day(2001, 12, 31), day(2001, 1, 1));
    // What has no year 2000 does not come into it from a date of 2000, but from one of 1999.
    ZoneCalendar none = new ZoneCalendar();
    none.setWeek(MONDAY);
    none.addFeast(1999, 1999, none.addPattern(12, 0, 31), NEXT);
    fallsOn(none, 0, day(1998, 6, 1), day(2001, 12, 31), day(2000, 1, 3));
  }

  private static void movedBehindLast() {
    // DAY 73048 is a Thursday, told by December 31st.
    fallsOn(feast(THURSDAY, 12, 31, NEXT), 0, LAST_DAY - 20, LAST_DAY, LAST_DAY);
    fallsOn(feast(FRIDAY, 12, 31, NEXT), 0, LAST_DAY - 20, LAST_DAY);
    fallsOn(feast(WEDNESDAY, 12, 31, NEXT), 0, LAST_DAY - 20, LAST_DAY);
    fallsOn(feast(WEDNESDAY, 12, 31, NEXT_FREE), 0, LAST_DAY - 20, LAST_DAY);
    fallsOn(feast(WEDNESDAY, 12, 30, NEXT_FREE), 0, LAST_DAY - 20, LAST_DAY, LAST_DAY - 1);
    fallsOn(feast(THURSDAY, 12, 30, NEXT_FREE), 0, LAST_DAY - 20, LAST_DAY, LAST_DAY);
    // The nearest Friday: from Monday the 28th the 25th is, from Tuesday the 29th January 1st.
    fallsOn(feast(FRIDAY, 12, 28, NEAREST), 0, LAST_DAY - 20, LAST_DAY, LAST_DAY - 6);
    fallsOn(feast(FRIDAY, 12, 29, NEAREST), 0, LAST_DAY - 20, LAST_DAY);
    // Of Wednesday and Friday the later, though there is Wednesday.
    fallsOn(feast(WEDNESDAY + FRIDAY, 12, 31, NEAREST), 0, LAST_DAY - 20, LAST_DAY);
    fallsOn(feast(WEDNESDAY + SATURDAY, 12, 31, NEAREST), 0, LAST_DAY - 20, LAST_DAY, LAST_DAY - 1);
    // From a smaller feast on the last DAY there is none to go to.
    ZoneCalendar x = feast(ALL, 12, 31, STAY);
    add(x, 12, 31, NEXT_FREE);
    add(x, 12, 30, NEXT_FREE);
    fallsOn(x, 1, LAST_DAY - 20, LAST_DAY);
    fallsOn(x, 2, LAST_DAY - 20, LAST_DAY, LAST_DAY - 1);
    Checks.due(x.feastOn(LAST_DAY), 0);
  }

  private static void movedAheadOfFirst() {
    // DAY 0 is a Monday, told by January 1st. The nearest Sunday: up to January 3rd it is ahead of DAY 0.
    fallsOn(feast(SUNDAY, 1, 1, NEAREST), 0, 0, 20);
    fallsOn(feast(SUNDAY, 1, 2, NEAREST), 0, 0, 20);
    fallsOn(feast(SUNDAY, 1, 3, NEAREST), 0, 0, 20);
    fallsOn(feast(SUNDAY, 1, 4, NEAREST), 0, 0, 20, 6);
    fallsOn(feast(MONDAY, 1, 1, NEAREST), 0, 0, 20, 0);
    fallsOn(feast(MONDAY, 1, 2, NEAREST), 0, 0, 20, 0);
    fallsOn(feast(MONDAY, 1, 4, NEAREST), 0, 0, 20, 0);
    fallsOn(feast(MONDAY, 1, 5, NEAREST), 0, 0, 20, 7);
    // Of Sunday and Tuesday the later.
    fallsOn(feast(SUNDAY + 2, 1, 1, NEAREST), 0, 0, 5, 1);
    // To Sunday it is less far than to Wednesday, which might be there.
    fallsOn(feast(SUNDAY + WEDNESDAY, 1, 1, NEAREST), 0, 0, 20);
    // Ways 1 and 3 go behind.
    fallsOn(feast(SUNDAY, 1, 1, NEXT), 0, 0, 20, 6);
    fallsOn(feast(SUNDAY, 1, 1, NEXT_FREE), 0, 0, 20, 6);
  }

  private static void movedAsNow() {
    ZoneCalendar x = feast(31, 7, 1, NEXT);
    int saturday = day(2000, 7, 1);
    fallsOn(x, 0, saturday - 9, saturday + 9, saturday + 2);
    x.setWeek(ALL);
    fallsOn(x, 0, saturday - 9, saturday + 9, saturday);
    x.setWeek(2);
    fallsOn(x, 0, saturday - 9, saturday + 9, saturday + 3);
    Checks.noArgument(() -> x.setWeek(0));
    fallsOn(x, 0, saturday - 9, saturday + 9, saturday + 3);
    x.setWeek(31);
    fallsOn(x, 0, saturday - 9, saturday + 9, saturday + 2);
  }

  private static void smallestFeast() {
    ZoneCalendar x = new ZoneCalendar();
    Checks.due(x.feastOn(0), -1);
    Checks.due(x.feastOn(LAST_DAY), -1);
    x.addPattern(1, 0, 1);
    x.addPattern(12, 0, 31);
    x.addFeast(2099, 2099, 1, STAY);
    x.addFeast(1900, 1900, 0, STAY);
    x.addFeast(1900, 2099, 0, STAY);
    x.addFeast(1900, 2099, 1, STAY);
    Checks.due(x.feastOn(0), 1);
    Checks.due(x.feastOn(1), -1);
    Checks.due(x.feastOn(364), 3);
    Checks.due(x.feastOn(365), 2);
    Checks.due(x.feastOn(LAST_DAY), 0);
    Checks.due(x.feastOn(LAST_DAY - 1), -1);
    Checks.due(x.feastOn(LAST_DAY - 364), 2);
    Checks.due(x.feastOn(LAST_DAY - 365), 3);
  }

  private static void feastRefused() {
    ZoneCalendar x = feast(31, 1, 1, STAY);
    for (int none : NO_DAYS) {
      Checks.noIndex(() -> x.feastOn(none));
    }
  }

  private static void workingOrNot() {
    ZoneCalendar x = new ZoneCalendar();
    Checks.due(x.isWorking(0), true);
    Checks.due(x.isWorking(4), true);
    Checks.due(x.isWorking(5), false);
    Checks.due(x.isWorking(6), false);
    Checks.due(x.isWorking(7), true);
    Checks.due(x.isWorking(LAST_DAY), true);
    add(x, 1, 1, STAY);
    add(x, 12, 31, STAY);
    Checks.due(x.isWorking(0), false);
    Checks.due(x.isWorking(1), true);
    Checks.due(x.isWorking(LAST_DAY), false);
    Checks.due(x.isWorking(LAST_DAY - 1), true);
    // A feast that moved away leaves the DAY, which is no working one, and takes another one.
    ZoneCalendar y = feast(31, 1, 6, NEXT);
    Checks.due(y.isWorking(5), false);
    Checks.due(y.isWorking(7), false);
    Checks.due(y.isWorking(8), true);
    y.setWeek(ALL);
    Checks.due(y.isWorking(5), false);
    Checks.due(y.isWorking(7), true);
  }

  private static void workingRefused() {
    ZoneCalendar x = new ZoneCalendar();
    for (int none : NO_DAYS) {
      Checks.noIndex(() -> x.isWorking(none));
    }
  }

  private static void workingDaysFrom() {
    ZoneCalendar x = new ZoneCalendar();
    Checks.due(x.workingDays(0, 0), 0);
    Checks.due(x.workingDays(0, 1), 1);
    Checks.due(x.workingDays(4, 1), 1);
    Checks.due(x.workingDays(4, 3), 1);
    Checks.due(x.workingDays(4, 4), 2);
    Checks.due(x.workingDays(5, 1), 0);
    Checks.due(x.workingDays(5, 2), 0);
    Checks.due(x.workingDays(5, 3), 1);
    // A feast on the first, the last and the next day.
    ZoneCalendar y = feast(31, 1, 10, STAY);
    Checks.due(y.workingDays(9, 3), 2);
    Checks.due(y.workingDays(7, 3), 2);
    Checks.due(y.workingDays(7, 2), 2);
    Checks.due(y.workingDays(10, 1), 1);
  }

  private static void workingDaysMost() {
    ZoneCalendar x = new ZoneCalendar();
    x.setWeek(ALL);
    Checks.due(x.workingDays(0, 400), 400);
    Checks.due(x.workingDays(100, 399), 399);
    for (int days : new int[] {-1, 401, Integer.MIN_VALUE, Integer.MAX_VALUE}) {
      Checks.noArgument(() -> x.workingDays(0, days));
      Checks.noArgument(() -> x.workingDays(LAST_DAY, days));
    }
    // Feasts that count lie far behind the first day, too: each 1st.
    ZoneCalendar y = new ZoneCalendar();
    y.setWeek(ALL);
    y.addFeast(1900, 2099, y.addPattern(0, 0, 1), STAY);
    Checks.due(y.workingDays(0, 400), 400 - 14);
  }

  private static void workingDaysAtLast() {
    ZoneCalendar x = new ZoneCalendar();
    x.setWeek(ALL);
    Checks.due(x.workingDays(LAST_DAY, 1), 1);
    Checks.due(x.workingDays(LAST_DAY, 0), 0);
    Checks.noArgument(() -> x.workingDays(LAST_DAY, 2));
    Checks.due(x.workingDays(LAST_DAY - 399, 400), 400);
    Checks.noArgument(() -> x.workingDays(LAST_DAY - 398, 400));
    Checks.due(x.workingDays(LAST_DAY - 398, 399), 399);
    add(x, 12, 31, STAY);
    Checks.due(x.workingDays(LAST_DAY, 1), 0);
  }

  private static void workingDaysRefused() {
    ZoneCalendar x = new ZoneCalendar();
    for (int none : NO_DAYS) {
      Checks.noIndex(() -> x.workingDays(none, 0));
      Checks.noIndex(() -> x.workingDays(none, 1));
      // The DAY is named first.
      Checks.noIndex(() -> x.workingDays(none, -1));
      Checks.noIndex(() -> x.workingDays(none, 401));
    }
  }

  private static void plusNone() {
    ZoneCalendar x = new ZoneCalendar();
    add(x, 1, 1, STAY);
    // A day that is no working one, too.
    for (int day : new int[] {0, 1, 5, 6, LAST_DAY - 3, LAST_DAY}) {
      Checks.due(x.plusWorking(day, 0), day);
    }
  }

  private static void plusOne() {
    ZoneCalendar x = new ZoneCalendar();
    int[] next = {1, 2, 3, 4, 7, 7, 7, 8};
    int[] before = {3, 4, 4, 4, 7, 8, 9, 10};
    for (int day = 0; day < 8; day++) {
      Checks.due(x.plusWorking(day, 1), next[day]);
      Checks.due(x.plusWorking(day + 4, -1), before[day]);
    }
    // Over a feast.
    add(x, 1, 9, STAY);
    Checks.due(x.plusWorking(7, 1), 9);
    Checks.due(x.plusWorking(8, 1), 9);
    Checks.due(x.plusWorking(9, -1), 7);
    Checks.due(x.plusWorking(8, -1), 7);
  }

  private static void plusMost() {
    ZoneCalendar x = new ZoneCalendar();
    x.setWeek(ALL);
    Checks.due(x.plusWorking(1000, 200), 1200);
    Checks.due(x.plusWorking(1000, -200), 800);
    Checks.due(x.plusWorking(1000, 199), 1199);
    Checks.due(x.plusWorking(1000, -199), 801);
    for (int days : new int[] {-201, 201, Integer.MIN_VALUE, Integer.MAX_VALUE}) {
      Checks.noArgument(() -> x.plusWorking(1000, days));
    }
  }

  private static void plusFarAway() {
    // Mondays alone: from 497 days ahead of DAY 7000, a Monday, that is the 71st one, from up to 503 the 72nd.
    ZoneCalendar x = new ZoneCalendar();
    x.setWeek(MONDAY);
    for (int away = 497; away <= 503; away++) {
      int count = away == 497 ? 71 : 72;
      Checks.due(x.plusWorking(7000 - away, count), away <= 500 ? 7000 : -1);
      Checks.due(x.plusWorking(7000 + away, -count), away <= 500 ? 7000 : -1);
    }
    Checks.due(x.plusWorking(7000, 200), -1);
    Checks.due(x.plusWorking(7000, -200), -1);
    // A feast counts, however far away it is up to that: of 200 days the one that is 150 behind, and ahead.
    ZoneCalendar far = feast(ALL, 5, 1, STAY);
    int feast = day(2000, 5, 1);
    for (int away : new int[] {1, 59, 61, 150, 200}) {
      Checks.due(far.plusWorking(feast - away, 200), feast - away + 201);
      Checks.due(far.plusWorking(feast + away, -200), feast + away - 201);
    }
    Checks.due(far.plusWorking(feast - 201, 200), feast - 1);
    Checks.due(far.plusWorking(feast + 201, -200), feast + 1);
    // Feasts on the first Mondays put it farther away.
    x.addFeast(1900, 2099, x.addPattern(0, 2, 1), STAY);
    Checks.due(x.plusWorking(7000, 71), -1);
    Checks.due(x.plusWorking(7000, -71), -1);
  }

  private static void plusOutside() {
    ZoneCalendar x = new ZoneCalendar();
    x.setWeek(ALL);
    Checks.due(x.plusWorking(0, -1), -1);
    Checks.due(x.plusWorking(1, -1), 0);
    Checks.due(x.plusWorking(1, -2), -1);
    Checks.due(x.plusWorking(200, -200), 0);
    Checks.due(x.plusWorking(199, -200), -1);
    Checks.due(x.plusWorking(LAST_DAY, 1), -1);
    Checks.due(x.plusWorking(LAST_DAY - 1, 1), LAST_DAY);
    Checks.due(x.plusWorking(LAST_DAY - 1, 2), -1);
    Checks.due(x.plusWorking(LAST_DAY - 200, 200), LAST_DAY);
    Checks.due(x.plusWorking(LAST_DAY - 199, 200), -1);
    // The first and the last DAY are feasts.
    add(x, 1, 1, STAY);
    add(x, 12, 31, STAY);
    Checks.due(x.plusWorking(1, -1), -1);
    Checks.due(x.plusWorking(LAST_DAY - 1, 1), -1);
  }

  private static void plusRefused() {
    ZoneCalendar x = new ZoneCalendar();
    for (int none : NO_DAYS) {
      Checks.noIndex(() -> x.plusWorking(none, 0));
      Checks.noIndex(() -> x.plusWorking(none, 1));
      // The DAY is named first.
      Checks.noIndex(() -> x.plusWorking(none, 201));
      Checks.noIndex(() -> x.plusWorking(none, -201));
    }
  }

  private static void minutesOfDay() {
    ZoneCalendar x = new ZoneCalendar();
    x.setHours(600, 602);
    for (int day : new int[] {0, 1, 4, 7, LAST_DAY}) {
      Checks.due(x.isWorkingMinute(1440 * day + 599), false);
      Checks.due(x.isWorkingMinute(1440 * day + 600), true);
      Checks.due(x.isWorkingMinute(1440 * day + 601), true);
      Checks.due(x.isWorkingMinute(1440 * day + 602), false);
    }
    Checks.due(x.isWorkingMinute(1440 * 5 + 600), false);
    // All of the day: Friday's last minute, and Saturday's first one; Sunday's last one, and Monday's first one.
    x.setHours(0, 1440);
    Checks.due(x.isWorkingMinute(0), true);
    Checks.due(x.isWorkingMinute(1440 * 5 - 1), true);
    Checks.due(x.isWorkingMinute(1440 * 5), false);
    Checks.due(x.isWorkingMinute(1440 * 7 - 1), false);
    Checks.due(x.isWorkingMinute(1440 * 7), true);
    Checks.due(x.isWorkingMinute(LAST_MOMENT), true);
    // A feast takes all of its DAY.
    add(x, 1, 9, STAY);
    Checks.due(x.isWorkingMinute(1440 * 8 - 1), true);
    Checks.due(x.isWorkingMinute(1440 * 8), false);
    Checks.due(x.isWorkingMinute(1440 * 9 - 1), false);
    Checks.due(x.isWorkingMinute(1440 * 9), true);
  }

  private static void minutesOnNoDay() {
    for (int base : new int[] {1, 60, 840}) {
      ZoneCalendar x = new ZoneCalendar();
      x.setWeek(ALL);
      x.setHours(0, 1440);
      x.addPlace(-base);
      x.addPlace(base);
      x.setWorkPlace(0);
      Checks.due(x.isWorkingMinute(0), false);
      Checks.due(x.isWorkingMinute(base - 1), false);
      Checks.due(x.isWorkingMinute(base), true);
      Checks.due(x.isWorkingMinute(LAST_MOMENT), true);
      Checks.due(x.workWithin(0, base + 5), 5);
      Checks.due(x.doneAt(0, 1), base + 1);
      x.setWorkPlace(1);
      Checks.due(x.isWorkingMinute(0), true);
      Checks.due(x.isWorkingMinute(LAST_MOMENT - base), true);
      Checks.due(x.isWorkingMinute(LAST_MOMENT - base + 1), false);
      Checks.due(x.isWorkingMinute(LAST_MOMENT), false);
      Checks.due(x.workWithin(LAST_MOMENT - base - 4, base + 5), 5);
      Checks.due(x.doneAt(LAST_MOMENT - base - 4, 5), LAST_MOMENT - base + 1);
      Checks.due(x.doneAt(LAST_MOMENT - base - 4, 6), -1);
    }
  }

  private static void minuteRefused() {
    ZoneCalendar x = new ZoneCalendar();
    for (int none : NO_MOMENTS) {
      Checks.noIndex(() -> x.isWorkingMinute(none));
    }
  }

  private static void withinFrom() {
    ZoneCalendar x = new ZoneCalendar();
    Checks.due(x.workWithin(540, 0), 0);
    Checks.due(x.workWithin(540, 1), 1);
    Checks.due(x.workWithin(539, 1), 0);
    Checks.due(x.workWithin(539, 2), 1);
    Checks.due(x.workWithin(1019, 1), 1);
    Checks.due(x.workWithin(1020, 1), 0);
    Checks.due(x.workWithin(1019, 2), 1);
    Checks.due(x.workWithin(540, 480), 480);
    Checks.due(x.workWithin(540, 481), 480);
    // Over the end of a day, of a week and of a year.
    Checks.due(x.workWithin(1019, 962), 2);
    Checks.due(x.workWithin(1440 * 4 + 1019, 1440 * 3 - 1019 + 541), 2);
    Checks.due(x.workWithin(1440 * 363, 1440 * 3), 2 * 480);
  }

  private static void withinMost() {
    ZoneCalendar x = new ZoneCalendar();
    x.setWeek(ALL);
    x.setHours(0, 1440);
    Checks.due(x.workWithin(0, 50000), 50000);
    Checks.due(x.workWithin(77, 49999), 49999);
    for (int minutes : new int[] {-1, 50001, Integer.MIN_VALUE, Integer.MAX_VALUE}) {
      Checks.noArgument(() -> x.workWithin(0, minutes));
      Checks.noArgument(() -> x.workWithin(LAST_MOMENT, minutes));
    }
    // February 4th, 1900, is the DAY in which the 50000th minute is.
    ZoneCalendar y = feast(ALL, 2, 4, STAY);
    y.setHours(0, 1440);
    Checks.due(y.workWithin(0, 50000), 1440 * 34);
  }

  private static void withinAtLast() {
    ZoneCalendar x = new ZoneCalendar();
    x.setHours(0, 1440);
    Checks.due(x.workWithin(LAST_MOMENT, 0), 0);
    Checks.due(x.workWithin(LAST_MOMENT, 1), 1);
    Checks.noArgument(() -> x.workWithin(LAST_MOMENT, 2));
    x.setWeek(ALL);
    Checks.due(x.workWithin(LAST_MOMENT - 49999, 50000), 50000);
    Checks.noArgument(() -> x.workWithin(LAST_MOMENT - 49998, 50000));
    Checks.due(x.workWithin(LAST_MOMENT - 49998, 49999), 49999);
  }

  private static void withinTurns() {
    // On July 3rd, 2000, the clock goes from 10:00 to 13:00, on July 5th from 13:00 to 10:00; work is from 11:00 on.
    ZoneCalendar x = new ZoneCalendar();
    x.addPlace(0);
    x.addTurn(0, 2000, 2000, x.addPattern(7, 0, 3), 600, 0, 180);
    x.addTurn(0, 2000, 2000, x.addPattern(7, 0, 5), 780, 0, 0);
    x.setWorkPlace(0);
    x.setHours(660, 840);
    int monday = 1440 * day(2000, 7, 3);
    Checks.due(x.isWorkingMinute(monday + 599), false);
    Checks.due(x.isWorkingMinute(monday + 600), true);
    Checks.due(x.isWorkingMinute(monday + 659), true);
    Checks.due(x.isWorkingMinute(monday + 660), false);
    Checks.due(x.workWithin(monday, 1440), 60);
    Checks.due(x.doneAt(monday, 1), monday + 601);
    Checks.due(x.doneAt(monday, 60), monday + 660);
    Checks.due(x.doneAt(monday, 61), monday + 1440 + 480 + 1);
    // From 11:00 to 13:00, then from 11:00 to 14:00 once more.
    int wednesday = monday + 2 * 1440;
    Checks.due(x.isWorkingMinute(wednesday + 480), true);
    Checks.due(x.isWorkingMinute(wednesday + 599), true);
    Checks.due(x.isWorkingMinute(wednesday + 600), false);
    Checks.due(x.isWorkingMinute(wednesday + 659), false);
    Checks.due(x.isWorkingMinute(wednesday + 660), true);
    Checks.due(x.workWithin(wednesday, 1440), 120 + 180);
    Checks.due(x.doneAt(wednesday, 120), wednesday + 600);
    Checks.due(x.doneAt(wednesday, 121), wednesday + 661);
    Checks.due(x.doneAt(wednesday, 300), wednesday + 840);
  }

  private static void withinFarOff() {
    // July 5th, 2000, is a feast: by the clock of a place it lasts from its midnight to the next one.
    int[] bases = {-840, -1, 0, 1, 840};
    for (int base : bases) {
      for (int saving : new int[] {0, 180}) {
        ZoneCalendar x = feast(ALL, 7, 5, STAY);
        x.setHours(0, 1440);
        x.addPlace(base);
        x.addTurn(0, 1990, 1990, 0, 0, 2, saving);
        x.setWorkPlace(0);
        int begin = 1440 * day(2000, 7, 5) - base - saving;
        Checks.due(x.isWorkingMinute(begin - 1), true);
        Checks.due(x.isWorkingMinute(begin), false);
        Checks.due(x.isWorkingMinute(begin + 1439), false);
        Checks.due(x.isWorkingMinute(begin + 1440), true);
        Checks.due(x.workWithin(begin - 1, 1), 1);
        Checks.due(x.workWithin(begin - 1, 2), 1);
        Checks.due(x.workWithin(begin, 1440), 0);
        Checks.due(x.workWithin(begin, 1441), 1);
        Checks.due(x.workWithin(begin - 48560, 50000), 48560);
        Checks.due(x.workWithin(begin - 49999, 50000), 49999);
        Checks.due(x.doneAt(begin - 1, 1), begin);
        Checks.due(x.doneAt(begin - 1, 2), begin + 1441);
        Checks.due(x.doneAt(begin, 1), begin + 1441);
      }
    }
  }

  private static void withinRefused() {
    ZoneCalendar x = new ZoneCalendar();
    for (int none : NO_MOMENTS) {
      Checks.noIndex(() -> x.workWithin(none, 0));
      Checks.noIndex(() -> x.workWithin(none, 1));
      // The MOMENT is named first.
      Checks.noIndex(() -> x.workWithin(none, -1));
      Checks.noIndex(() -> x.workWithin(none, 50001));
    }
  }

  private static void doneFrom() {
    ZoneCalendar x = new ZoneCalendar();
    Checks.due(x.doneAt(539, 1), 541);
    Checks.due(x.doneAt(540, 1), 541);
    Checks.due(x.doneAt(541, 1), 542);
    Checks.due(x.doneAt(1019, 1), 1020);
    Checks.due(x.doneAt(1020, 1), 1440 + 541);
    Checks.due(x.doneAt(540, 480), 1020);
    Checks.due(x.doneAt(540, 481), 1440 + 541);
    // Over the end of a week, and over a feast.
    Checks.due(x.doneAt(1440 * 4 + 1020, 1), 1440 * 7 + 541);
    add(x, 1, 8, STAY);
    Checks.due(x.doneAt(1440 * 4 + 1020, 1), 1440 * 8 + 541);
  }

  private static void doneMost() {
    ZoneCalendar x = new ZoneCalendar();
    for (int work : new int[] {0, -1, 10001, Integer.MIN_VALUE, Integer.MAX_VALUE}) {
      Checks.noArgument(() -> x.doneAt(0, work));
    }
    x.setWeek(ALL);
    x.setHours(0, 1440);
    Checks.due(x.doneAt(0, 1), 1);
    Checks.due(x.doneAt(0, 10000), 10000);
    Checks.due(x.doneAt(7, 9999), 10006);
  }

  private static void doneFarAway() {
    // The first minute of a Monday alone is worked: DAY 700 is one.
    ZoneCalendar x = new ZoneCalendar();
    x.setWeek(MONDAY);
    x.setHours(0, 1);
    int done = 1440 * 700 + 1;
    for (int away = 49998; away <= 50002; away++) {
      // There are four Mondays between: DAYS 672, 679, 686 and 693.
      Checks.due(x.doneAt(done - away, 5), away <= 50000 ? done : -1);
      Checks.due(x.doneAt(done - away, 4), 1440 * 693 + 1);
      Checks.due(x.doneAt(done - away, 6), -1);
    }
    // In 50000 minutes 35 days begin.
    x.setWeek(ALL);
    x.setHours(0, 200);
    Checks.due(x.doneAt(0, 7000), 1440 * 34 + 200);
    Checks.due(x.doneAt(0, 7001), -1);
  }

  private static void doneAtLast() {
    ZoneCalendar x = new ZoneCalendar();
    x.setHours(0, 1440);
    // The last DAY is a Thursday; all of it is worked, but the last minute is done behind the last MOMENT.
    Checks.due(x.doneAt(LAST_MOMENT, 1), -1);
    Checks.due(x.doneAt(LAST_MOMENT - 1, 1), LAST_MOMENT);
    Checks.due(x.doneAt(LAST_MOMENT - 1, 2), -1);
    Checks.due(x.doneAt(LAST_MOMENT - 1439, 1439), LAST_MOMENT);
    Checks.due(x.doneAt(LAST_MOMENT - 1439, 1440), -1);
    x.setWeek(ALL);
    Checks.due(x.doneAt(LAST_MOMENT - 10000, 10000), LAST_MOMENT);
    Checks.due(x.doneAt(LAST_MOMENT - 9999, 10000), -1);
    x.setHours(0, 1439);
    Checks.due(x.doneAt(LAST_MOMENT - 1, 1), LAST_MOMENT);
    Checks.due(x.doneAt(LAST_MOMENT, 1), -1);
  }

  private static void doneRefused() {
    ZoneCalendar x = new ZoneCalendar();
    for (int none : NO_MOMENTS) {
      Checks.noIndex(() -> x.doneAt(none, 1));
      // The MOMENT is named first.
      Checks.noIndex(() -> x.doneAt(none, 0));
      Checks.noIndex(() -> x.doneAt(none, 10001));
    }
    for (int far : FAR_OFF) {
      Checks.noIndex(() -> x.doneAt(far, far));
    }
  }
}
