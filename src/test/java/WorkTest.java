/** Promises 36 to 46. */
final class WorkTest {
  private static final int LAST_DAY = 73048;
  private static final int LAST_MOMENT = 105190559;
  private static final int STAY = 0;
  private static final int NEXT = 1;
  private static final int NEAREST = 2;
  private static final int NEXT_FREE = 3;
  private static final int MONDAYS = 1;

  private WorkTest() {
  }

  static void run() {
    Checks.test("promise 36: setWorkPlace", WorkTest::setWorkPlace);
    Checks.test("promise 37: setWeek", WorkTest::setWeek);
    Checks.test("promise 38: setHours", WorkTest::setHours);
    Checks.test("promise 39: addFeast", WorkTest::addFeast);
    Checks.test("promise 39: addFeast, wrong inputs", WorkTest::addWrongFeast);
    Checks.test("promise 40: feastOn", WorkTest::feastOn);
    Checks.test("promise 40: feastOn, each way", WorkTest::feastByWay);
    Checks.test("promise 40: feastOn, over the end of a year", WorkTest::feastOverYear);
    Checks.test("promise 40: feastOn, the ends of time", WorkTest::feastAtEnds);
    Checks.test("promise 40: feastOn, no free day", WorkTest::feastWithoutDay);
    Checks.test("promise 40: feastOn, many that give way", WorkTest::feastsInChains);
    Checks.test("promise 41: isWorking", WorkTest::isWorking);
    Checks.test("promise 42: workingDays", WorkTest::workingDays);
    Checks.test("promise 43: plusWorking", WorkTest::plusWorking);
    Checks.test("promise 44: isWorkingMinute", WorkTest::isWorkingMinute);
    Checks.test("promise 45: workWithin", WorkTest::workWithin);
    Checks.test("promise 46: doneAt", WorkTest::doneAt);
  }

  private static int day(int year, int month, int day) {
    return SlowCalendar.day(year, month, day);
  }

  private static void setWorkPlace() {
    ZoneCalendar x = new ZoneCalendar();
    Checks.noIndex(() -> x.setWorkPlace(0));
    x.addPlace(60);
    x.addPlace(-840);
    int tuesday = 1440;
    Checks.due(x.isWorkingMinute(tuesday + 480), false);
    Checks.due(x.setWorkPlace(0), -1);
    Checks.due(x.isWorkingMinute(tuesday + 480), true);
    Checks.due(x.isWorkingMinute(tuesday + 479), false);
    Checks.due(x.isWorkingMinute(tuesday + 960), false);
    Checks.due(x.setWorkPlace(1), 0);
    Checks.due(x.isWorkingMinute(tuesday + 1380), true);
    Checks.due(x.isWorkingMinute(tuesday + 1379), false);
    Checks.due(x.setWorkPlace(1), 1);
    Checks.noIndex(() -> x.setWorkPlace(2));
    Checks.noIndex(() -> x.setWorkPlace(-1));
    Checks.noIndex(() -> x.setWorkPlace(Integer.MAX_VALUE));
    Checks.due(x.setWorkPlace(0), 1);
  }

  private static void setWeek() {
    ZoneCalendar x = new ZoneCalendar();
    Checks.due(x.setWeek(127), 31);
    Checks.due(x.workingDays(0, 7), 7);
    Checks.due(x.setWeek(1), 127);
    Checks.due(x.workingDays(0, 7), 1);
    Checks.due(x.isWorking(7), true);
    Checks.due(x.setWeek(96), 1);
    Checks.due(x.isWorking(4), false);
    Checks.due(x.isWorking(5), true);
    Checks.due(x.isWorking(6), true);
    for (int weekdays : new int[] {0, 128, -1, Integer.MIN_VALUE, Integer.MAX_VALUE}) {
      Checks.noArgument(() -> x.setWeek(weekdays));
    }
    Checks.due(x.setWeek(31), 96);
    // Feasts move by the week as it is now.
    x.addPattern(1, 0, 6);
    x.addFeast(1900, 1900, 0, NEXT);
    Checks.due(x.feastOn(7), 0);
    x.setWeek(32);
    Checks.due(x.feastOn(7), -1);
    Checks.due(x.feastOn(5), 0);
  }

  private static void setHours() {
    ZoneCalendar x = new ZoneCalendar();
    Checks.due(x.setHours(0, 1440), 1440);
    Checks.due(x.isWorkingMinute(0), true);
    Checks.due(x.isWorkingMinute(1439), true);
    Checks.due(x.setHours(1439, 1440), 1);
    Checks.due(x.isWorkingMinute(1438), false);
    Checks.due(x.isWorkingMinute(1439), true);
    Checks.due(x.isWorkingMinute(1440), false);
    Checks.due(x.setHours(480, 481), 1);
    int[][] wrong = {
      {-1, 10}, {1440, 1440}, {1440, 1441}, {0, 0}, {10, 10}, {10, 9}, {0, 1441}, {Integer.MIN_VALUE, 1},
      {0, Integer.MAX_VALUE}, {Integer.MAX_VALUE, Integer.MIN_VALUE}};
    for (int[] each : wrong) {
      Checks.noArgument(() -> x.setHours(each[0], each[1]));
    }
    Checks.due(x.workWithin(0, 1440), 1);
    Checks.due(x.isWorkingMinute(480), true);
  }

  private static void addFeast() {
    ZoneCalendar x = new ZoneCalendar();
    x.addPattern(5, 0, 1);
    for (int k = 0; k < 20; k++) {
      Checks.due(x.addFeast(1900 + k, 2099 - k, 0, k % 4), k);
    }
    Checks.noState(() -> x.addFeast(1900, 1900, 0, 0));
    Checks.noArgument(() -> x.addFeast(1900, 1900, 0, 4));
    Checks.noIndex(() -> x.addFeast(1900, 1900, 1, 0));
    // May 1st, 1901, is a Wednesday.
    Checks.due(x.feastOn(day(1901, 5, 1)), 0);
  }

  private static void addWrongFeast() {
    ZoneCalendar x = new ZoneCalendar();
    Checks.noIndex(() -> x.addFeast(1900, 1900, 0, 0));
    x.addPattern(5, 0, 1);
    int[][] wrong = {
      {1899, 1900, 0, 0}, {2100, 2100, 0, 0}, {1950, 1949, 0, 0}, {1950, 2100, 0, 0}, {1950, 1950, 0, -1},
      {1950, 1950, 0, 4}, {Integer.MIN_VALUE, Integer.MAX_VALUE, 0, 0}};
    for (int[] each : wrong) {
      Checks.noArgument(() -> x.addFeast(each[0], each[1], each[2], each[3]));
    }
    Checks.noIndex(() -> x.addFeast(1899, 1900, 1, 4));
    Checks.noIndex(() -> x.addFeast(1899, 1900, -1, 4));
    Checks.noIndex(() -> x.addFeast(1899, 1900, Integer.MAX_VALUE, 4));
    Checks.due(x.addFeast(2099, 2099, 0, 3), 0);
  }

  private static void feastOn() {
    ZoneCalendar x = new ZoneCalendar();
    x.addPattern(5, 0, 1);
    x.addPattern(0, 0, 1);
    x.addPattern(0, 16, 101);
    Checks.due(x.feastOn(day(2000, 5, 1)), -1);
    x.addFeast(1999, 2001, 2, STAY);
    x.addFeast(1999, 2001, 0, STAY);
    x.addFeast(2000, 2000, 1, STAY);
    Checks.due(x.feastOn(day(2000, 5, 1)), 1);
    Checks.due(x.feastOn(day(1998, 5, 1)), -1);
    Checks.due(x.feastOn(day(1999, 5, 1)), 1);
    Checks.due(x.feastOn(day(2001, 5, 1)), 1);
    Checks.due(x.feastOn(day(2002, 5, 1)), -1);
    Checks.due(x.feastOn(day(2000, 6, 1)), 2);
    Checks.due(x.feastOn(day(2000, 12, 1)), 2);
    Checks.due(x.feastOn(day(2001, 1, 1)), -1);
    Checks.due(x.feastOn(day(2000, 4, 24)), 0);
    Checks.due(x.feastOn(day(2000, 4, 23)), -1);
    // April 1st, 2000, is a Saturday: the feast stays on it.
    Checks.due(x.feastOn(day(2000, 4, 1)), 2);
    for (int none : new int[] {-1, LAST_DAY + 1, Integer.MIN_VALUE, Integer.MAX_VALUE}) {
      Checks.noIndex(() -> x.feastOn(none));
    }
  }

  private static void feastByWay() {
    // Saturday the 1st of April, 2000, then Sunday the 2nd, by each way; Monday is the 3rd, Friday March 31st.
    int saturday = day(2000, 4, 1);
    int[] falls = {saturday, saturday + 2, saturday - 1, saturday + 2};
    int[] sundayFalls = {saturday + 1, saturday + 2, saturday + 2, saturday + 2};
    for (int way = 0; way < 4; way++) {
      for (int k = 1; k <= 2; k++) {
        ZoneCalendar x = new ZoneCalendar();
        x.addPattern(4, 0, k);
        x.addFeast(2000, 2000, 0, way);
        for (int day = saturday - 5; day <= saturday + 5; day++) {
          int due = k == 1 ? falls[way] : sundayFalls[way];
          Checks.due("way " + way + " from the " + k + "th, DAY " + day, x.feastOn(day), day == due ? 0 : -1);
        }
      }
    }
    // Without Tuesday and Wednesday each of them is nearest to the day on its own side.
    ZoneCalendar x = new ZoneCalendar();
    x.addPattern(4, 0, 4);
    x.addPattern(4, 0, 5);
    x.addFeast(2000, 2000, 0, NEAREST);
    x.addFeast(2000, 2000, 1, NEAREST);
    x.setWeek(127 - 2 - 4);
    Checks.due(x.feastOn(saturday + 2), 0);
    Checks.due(x.feastOn(saturday + 5), 1);
    // Of two that are as near the later one.
    x.setWeek(127 - 2);
    Checks.due(x.feastOn(saturday + 2), -1);
    Checks.due(x.feastOn(saturday + 4), 0);

    // Way 3 leaves a working day on which a smaller feast falls, but not one on which a greater one falls.
    ZoneCalendar y = new ZoneCalendar();
    y.addPattern(4, 0, 3);
    y.addPattern(4, 0, 4);
    y.addFeast(2000, 2000, 0, NEXT_FREE);
    y.addFeast(2000, 2000, 0, NEXT_FREE);
    y.addFeast(2000, 2000, 1, NEXT);
    y.addFeast(2000, 2000, 1, NEXT_FREE);
    Checks.due(y.feastOn(saturday + 2), 0);
    Checks.due(y.feastOn(saturday + 3), 1);
    Checks.due(y.feastOn(saturday + 4), 3);
    Checks.due(y.feastOn(saturday + 5), -1);
    // Ways 1 and 2 do not mind other feasts.
    ZoneCalendar z = new ZoneCalendar();
    z.addPattern(4, 0, 1);
    z.addPattern(4, 0, 3);
    z.addFeast(2000, 2000, 1, STAY);
    z.addFeast(2000, 2000, 0, NEXT);
    Checks.due(z.feastOn(saturday + 2), 0);
    Checks.due(z.feastOn(saturday + 3), -1);
  }

  private static void feastOverYear() {
    ZoneCalendar x = new ZoneCalendar();
    x.addPattern(12, 0, 31);
    x.addPattern(1, 0, 1);
    x.addFeast(2000, 2000, 0, NEXT);
    // December 31st, 2000, is a Sunday; it moves to 2001, though the feast has no year but 2000.
    Checks.due(x.feastOn(day(2000, 12, 31)), -1);
    Checks.due(x.feastOn(day(2001, 1, 1)), 0);
    // January 1st, 2000, is a Saturday; it moves to 1999.
    x.addFeast(2000, 2000, 1, NEAREST);
    Checks.due(x.feastOn(day(1999, 12, 31)), 1);
    Checks.due(x.feastOn(day(2000, 1, 1)), -1);
  }

  private static void feastAtEnds() {
    ZoneCalendar x = new ZoneCalendar();
    x.addPattern(12, 0, 31);
    x.addPattern(1, 0, 1);
    x.addFeast(1900, 2099, 0, NEXT);
    x.addFeast(1900, 2099, 1, NEAREST);
    // December 31st, 2099, is a Thursday, January 1st, 1900, a Monday.
    Checks.due(x.feastOn(LAST_DAY), 0);
    Checks.due(x.feastOn(0), 1);
    x.setWeek(1 + 2 + 4);
    Checks.due(x.feastOn(LAST_DAY), -1);
    Checks.due(x.feastOn(LAST_DAY - 1), -1);
    // To Saturday ahead of DAY 0 it is 2 days, to the one behind it 5: it falls on none.
    x.setWeek(32);
    Checks.due(x.feastOn(0), -1);
    Checks.due(x.feastOn(5), -1);
    // To Thursday behind it is 3 days.
    x.setWeek(8 + 4);
    Checks.due(x.feastOn(2), 1);
    // Nearest to the last DAY, a Thursday: Wednesday and Friday, the later, which is no DAY.
    ZoneCalendar y = new ZoneCalendar();
    y.addPattern(12, 0, 31);
    y.addFeast(2099, 2099, 0, NEAREST);
    y.setWeek(4 + 16);
    Checks.due(y.feastOn(LAST_DAY - 1), -1);
    Checks.due(y.feastOn(LAST_DAY), -1);
    y.setWeek(4 + 32);
    Checks.due(y.feastOn(LAST_DAY - 1), 0);
    ZoneCalendar z = new ZoneCalendar();
    z.addPattern(12, 0, 31);
    z.addFeast(2099, 2099, 0, STAY);
    z.addFeast(2099, 2099, 0, NEXT_FREE);
    z.addFeast(2099, 2099, 0, STAY);
    Checks.due(z.feastOn(LAST_DAY), 0);
    Checks.due(z.feastOn(LAST_DAY - 1), -1);
  }

  private static void feastWithoutDay() {
    // Feasts 0 to 3 take each Monday, the one working weekday, but the fifth ones.
    ZoneCalendar x = new ZoneCalendar();
    for (int number = 1; number <= 5; number++) {
      x.addPattern(0, 2, number);
    }
    x.addPattern(2, 0, 1);
    x.setWeek(MONDAYS);
    for (int k = 0; k < 4; k++) {
      x.addFeast(1900, 2099, k, STAY);
    }
    x.addFeast(2000, 2000, 5, NEXT_FREE);
    // The next fifth Monday behind February 1st, 2000, is May 29th, more than 60 days behind: it falls on none.
    for (int day = day(2000, 1, 1); day <= day(2000, 7, 1); day++) {
      Checks.due("DAY " + day, x.feastOn(day) == 4, false);
    }
    // From March 31st on May 29th is the 59th day behind, from March 30th the 60th, from March 29th the 61st.
    for (int number = 29; number <= 31; number++) {
      ZoneCalendar y = new ZoneCalendar();
      for (int k = 1; k <= 4; k++) {
        y.addPattern(0, 2, k);
        y.addFeast(1900, 2099, k - 1, STAY);
      }
      y.setWeek(MONDAYS);
      y.addPattern(3, 0, number);
      y.addFeast(2000, 2000, 4, NEXT_FREE);
      Checks.due("from March " + number, y.feastOn(day(2000, 5, 29)), number == 29 ? -1 : 4);
      Checks.due(y.workingDays(day(2000, 5, 29), 1), number == 29 ? 1 : 0);
    }
  }

  /** Feasts that push one another on for more than a year, held against the slow calendar on each DAY. */
  private static void feastsInChains() {
    for (int week : new int[] {1, 64, 5, 31, 127}) {
      ZoneCalendar x = new ZoneCalendar();
      SlowCalendar slow = new SlowCalendar();
      x.setWeek(week);
      slow.setWeek(week);
      for (int k = 0; k < 20; k++) {
        int kind = k % 3 == 0 ? 0 : k % 3 == 1 ? 1 : 2 + k % 14;
        int number = kind < 2 ? 1 + 3 * k % 29 : 1 + k % 5;
        x.addPattern(k % 2 == 0 ? 0 : 1 + k % 12, kind, number);
        slow.addPattern(k % 2 == 0 ? 0 : 1 + k % 12, kind, number);
        int firstYear = k % 4 == 0 ? 1900 : 1998;
        int lastYear = k % 5 == 0 ? 2099 : 2002;
        int way = k % 6 == 5 ? k % 4 : NEXT_FREE;
        x.addFeast(firstYear, lastYear, k, way);
        slow.addFeast(firstYear, lastYear, k, way);
      }
      for (int day = 0; day <= LAST_DAY; day += day < 900 || day > 72200 || day > 35500 && day < 38500 ? 1 : 13) {
        Checks.due("week " + week + ", DAY " + day, x.feastOn(day), slow.feastOn(day));
      }
      for (int day = 0; day <= LAST_DAY; day += 331) {
        int days = Math.min(400, LAST_DAY + 1 - day);
        Checks.due("from " + day, x.workingDays(day, days), slow.workingDays(day, days));
        Checks.due("behind " + day, x.plusWorking(day, 60), slow.plusWorking(day, 60));
        Checks.due("ahead of " + day, x.plusWorking(day, -60), slow.plusWorking(day, -60));
      }
    }
    // One DAY told for all: the n-th one falls n weeks later, up to the eighth.
    ZoneCalendar x = new ZoneCalendar();
    x.addPattern(1, 0, 1);
    x.setWeek(MONDAYS);
    for (int k = 0; k < 20; k++) {
      x.addFeast(2000, 2000, 0, NEXT_FREE);
    }
    for (int k = 0; k < 12; k++) {
      Checks.due(x.feastOn(day(2000, 1, 3) + 7 * k), k < 9 ? k : -1);
    }
    chainOverAYear(1999);
    chainOverAYear(2000);
  }

  /**
   * Feasts 0 to 2 take the first three Mondays of each month, feast 3 the fourth one of January of a year. In 2000
   * feast 4 finds that taken, and goes to the fifth one; each further feast finds the one ahead of it where it is told.
   */
  private static void chainOverAYear(int year) {
    ZoneCalendar x = new ZoneCalendar();
    x.setWeek(MONDAYS);
    for (int k = 0; k < 3; k++) {
      x.addPattern(0, 2, k + 1);
      x.addFeast(1900, 2099, k, STAY);
    }
    int[] mondays = {day(2000, 1, 24), day(2000, 1, 31), day(2000, 2, 28), day(2000, 3, 27), day(2000, 4, 24),
      day(2000, 5, 22), day(2000, 5, 29), day(2000, 6, 26), day(2000, 7, 24), day(2000, 7, 31), day(2000, 8, 28),
      day(2000, 9, 25), day(2000, 10, 23), day(2000, 10, 30), day(2000, 11, 27), day(2000, 12, 25), day(2001, 1, 22)};
    x.addPattern(1, 2, 4);
    x.addFeast(year, year, 3, STAY);
    for (int k = 0; k < 16; k++) {
      int month = x.monthOf(mondays[k]);
      int pattern = x.addPattern(month, 2, 1 + (x.dayOfMonth(mondays[k]) - 1) / 7);
      Checks.due(x.addFeast(2000, 2000, pattern, NEXT_FREE), k + 4);
    }
    for (int k = 0; k < 17; k++) {
      int due = year == 2000 ? k + 3 : k < 16 ? k + 4 : -1;
      Checks.due("Monday " + k, x.feastOn(mondays[k]), due);
    }
  }

  private static void isWorking() {
    ZoneCalendar x = new ZoneCalendar();
    x.addPattern(0, 0, 3);
    Checks.due(x.isWorking(0), true);
    Checks.due(x.isWorking(4), true);
    Checks.due(x.isWorking(5), false);
    Checks.due(x.isWorking(6), false);
    Checks.due(x.isWorking(7), true);
    Checks.due(x.isWorking(LAST_DAY), true);
    x.addFeast(1900, 1900, 0, STAY);
    Checks.due(x.isWorking(2), false);
    // February 3rd, 1900, is a Saturday: the feast stays, and Monday is worked.
    Checks.due(x.isWorking(35), true);
    x.addFeast(1900, 1900, 0, NEXT);
    Checks.due(x.isWorking(35), false);
    Checks.due(x.isWorking(36), true);
    for (int none : new int[] {-1, LAST_DAY + 1, Integer.MIN_VALUE, Integer.MAX_VALUE}) {
      Checks.noIndex(() -> x.isWorking(none));
    }
  }

  private static void workingDays() {
    ZoneCalendar x = new ZoneCalendar();
    Checks.due(x.workingDays(0, 0), 0);
    Checks.due(x.workingDays(0, 1), 1);
    Checks.due(x.workingDays(0, 7), 5);
    Checks.due(x.workingDays(4, 4), 2);
    Checks.due(x.workingDays(0, 400), 286);
    x.addPattern(0, 0, 1);
    x.addFeast(1900, 2099, 0, STAY);
    Checks.due(x.workingDays(0, 1), 0);
    Checks.due(x.workingDays(0, 31), 22);
    Checks.due(x.workingDays(LAST_DAY, 1), 1);
    Checks.due(x.workingDays(LAST_DAY, 0), 0);
    Checks.due(x.workingDays(LAST_DAY - 399, 400), x.workingDays(LAST_DAY - 399, 399) + 1);
    Checks.noArgument(() -> x.workingDays(LAST_DAY, 2));
    Checks.noArgument(() -> x.workingDays(LAST_DAY - 398, 400));
    for (int days : new int[] {-1, 401, Integer.MIN_VALUE, Integer.MAX_VALUE}) {
      Checks.noArgument(() -> x.workingDays(0, days));
      Checks.noIndex(() -> x.workingDays(-1, days));
    }
    Checks.noIndex(() -> x.workingDays(LAST_DAY + 1, 0));
    Checks.noIndex(() -> x.workingDays(Integer.MAX_VALUE, 1));
  }

  private static void plusWorking() {
    ZoneCalendar x = new ZoneCalendar();
    Checks.due(x.plusWorking(5, 0), 5);
    Checks.due(x.plusWorking(0, 1), 1);
    Checks.due(x.plusWorking(4, 1), 7);
    Checks.due(x.plusWorking(5, 1), 7);
    Checks.due(x.plusWorking(7, -1), 4);
    Checks.due(x.plusWorking(6, -1), 4);
    Checks.due(x.plusWorking(6, -5), 0);
    Checks.due(x.plusWorking(6, -6), -1);
    Checks.due(x.plusWorking(0, -1), -1);
    Checks.due(x.plusWorking(0, 0), 0);
    Checks.due(x.plusWorking(LAST_DAY, 1), -1);
    Checks.due(x.plusWorking(LAST_DAY - 1, 1), LAST_DAY);
    Checks.due(x.plusWorking(LAST_DAY - 1, 2), -1);
    Checks.due(x.plusWorking(0, 200), 280);
    Checks.due(x.plusWorking(280, -200), 0);
    // Mondays alone: the 71st one behind a Monday is 497 days away, the 72nd one 504; 500 are the most.
    x.setWeek(MONDAYS);
    Checks.due(x.plusWorking(700, 71), 1197);
    Checks.due(x.plusWorking(700, 72), -1);
    Checks.due(x.plusWorking(697, 72), 1197);
    Checks.due(x.plusWorking(696, 72), -1);
    Checks.due(x.plusWorking(700, -71), 203);
    Checks.due(x.plusWorking(703, -72), 203);
    Checks.due(x.plusWorking(704, -72), -1);
    Checks.due(x.plusWorking(700, -72), -1);
    for (int days : new int[] {-201, 201, Integer.MIN_VALUE, Integer.MAX_VALUE}) {
      Checks.noArgument(() -> x.plusWorking(0, days));
      Checks.noIndex(() -> x.plusWorking(-1, days));
    }
    Checks.noIndex(() -> x.plusWorking(LAST_DAY + 1, 0));
    Checks.noIndex(() -> x.plusWorking(Integer.MIN_VALUE, 0));
  }

  /** Work from 1:30 to 3:30 at a place that goes from 2:00 to 3:00 in spring, and from 3:00 to 2:00 in autumn. */
  private static ZoneCalendar nightWork() {
    ZoneCalendar x = new ZoneCalendar();
    x.addPattern(3, 15, 1);
    x.addPattern(10, 15, 1);
    x.addPlace(60);
    x.addTurn(0, 1980, 2099, 0, 60, 2, 60);
    x.addTurn(0, 1980, 2099, 1, 60, 2, 0);
    x.setWorkPlace(0);
    x.setWeek(127);
    x.setHours(90, 210);
    return x;
  }

  private static void isWorkingMinute() {
    ZoneCalendar x = nightWork();
    int spring = 1440 * day(2000, 3, 26);
    int autumn = 1440 * day(2000, 10, 29);
    Checks.due(x.isWorkingMinute(spring + 29), false);
    Checks.due(x.isWorkingMinute(spring + 30), true);
    Checks.due(x.isWorkingMinute(spring + 89), true);
    Checks.due(x.isWorkingMinute(spring + 90), false);
    Checks.due(x.isWorkingMinute(autumn - 31), false);
    Checks.due(x.isWorkingMinute(autumn - 30), true);
    Checks.due(x.isWorkingMinute(autumn + 60), true);
    Checks.due(x.isWorkingMinute(autumn + 149), true);
    Checks.due(x.isWorkingMinute(autumn + 150), false);
    // A LOCAL time that is on no DAY is not worked.
    x.addPlace(-1);
    x.addPlace(1);
    x.setHours(0, 1440);
    x.setWorkPlace(1);
    Checks.due(x.isWorkingMinute(0), false);
    Checks.due(x.isWorkingMinute(1), true);
    Checks.due(x.isWorkingMinute(LAST_MOMENT), true);
    x.setWorkPlace(2);
    Checks.due(x.isWorkingMinute(0), true);
    Checks.due(x.isWorkingMinute(LAST_MOMENT - 1), true);
    Checks.due(x.isWorkingMinute(LAST_MOMENT), false);
    // The greatest saving there is: May 1st begins 3 hours ahead of its MOMENT, and is a feast.
    ZoneCalendar y = new ZoneCalendar();
    y.addPattern(1, 0, 1);
    y.addPattern(5, 0, 1);
    y.addPlace(0);
    y.addTurn(0, 2000, 2000, 0, 0, 2, 180);
    y.addFeast(2000, 2000, 1, STAY);
    y.setWorkPlace(0);
    y.setWeek(127);
    y.setHours(0, 1440);
    int may = 1440 * day(2000, 5, 1) - 180;
    Checks.due(y.isWorkingMinute(may - 1), true);
    Checks.due(y.isWorkingMinute(may), false);
    Checks.due(y.isWorkingMinute(may + 1439), false);
    Checks.due(y.isWorkingMinute(may + 1440), true);
    Checks.due(y.workWithin(may - 10, 11), 10);
    Checks.due(y.doneAt(may - 10, 11), may + 1441);
    for (int none : new int[] {-1, LAST_MOMENT + 1, Integer.MIN_VALUE, Integer.MAX_VALUE}) {
      Checks.noIndex(() -> x.isWorkingMinute(none));
    }
  }

  private static void workWithin() {
    ZoneCalendar plain = new ZoneCalendar();
    Checks.due(plain.workWithin(0, 0), 0);
    Checks.due(plain.workWithin(0, 540), 0);
    Checks.due(plain.workWithin(0, 541), 1);
    Checks.due(plain.workWithin(0, 1440), 480);
    Checks.due(plain.workWithin(600, 100), 100);
    Checks.due(plain.workWithin(0, 50000), 25 * 480);
    Checks.due(plain.workWithin(1019, 10), 1);
    Checks.due(plain.workWithin(LAST_MOMENT, 1), 0);
    Checks.due(plain.workWithin(LAST_MOMENT - 1439, 1440), 480);
    plain.addPattern(0, 0, 2);
    plain.addFeast(1900, 2099, 0, STAY);
    Checks.due(plain.workWithin(0, 2 * 1440), 480);
    Checks.noArgument(() -> plain.workWithin(LAST_MOMENT, 2));
    Checks.noArgument(() -> plain.workWithin(LAST_MOMENT - 49998, 50000));
    for (int minutes : new int[] {-1, 50001, Integer.MIN_VALUE, Integer.MAX_VALUE}) {
      Checks.noArgument(() -> plain.workWithin(0, minutes));
      Checks.noIndex(() -> plain.workWithin(-1, minutes));
    }
    Checks.noIndex(() -> plain.workWithin(LAST_MOMENT + 1, 0));
    Checks.noIndex(() -> plain.workWithin(Integer.MAX_VALUE, 1));

    ZoneCalendar x = nightWork();
    int spring = 1440 * day(2000, 3, 26);
    int autumn = 1440 * day(2000, 10, 29);
    Checks.due(x.workWithin(spring, 1000), 60);
    Checks.due(x.workWithin(autumn - 60, 1000), 180);
    Checks.due(x.workWithin(spring - 1440, 1000), 120);
    // The place's days begin at other MOMENTS.
    x.addPlace(-840);
    x.addPlace(840);
    x.setHours(0, 1440);
    x.setWorkPlace(1);
    Checks.due(x.workWithin(0, 840), 0);
    Checks.due(x.workWithin(0, 900), 60);
    x.setWorkPlace(2);
    Checks.due(x.workWithin(LAST_MOMENT - 899, 900), 60);
    Checks.due(x.workWithin(LAST_MOMENT - 839, 840), 0);
    Checks.due(x.workWithin(0, 50000), 50000);
  }

  private static void doneAt() {
    ZoneCalendar x = new ZoneCalendar();
    Checks.due(x.doneAt(0, 1), 541);
    Checks.due(x.doneAt(540, 1), 541);
    Checks.due(x.doneAt(541, 1), 542);
    Checks.due(x.doneAt(0, 480), 1020);
    Checks.due(x.doneAt(0, 481), 1440 + 541);
    Checks.due(x.doneAt(1440 * 4 + 1019, 2), 1440 * 7 + 541);
    Checks.due(x.doneAt(0, 10000), 1440 * 28 + 540 + 400);
    Checks.due(x.doneAt(LAST_MOMENT, 1), -1);
    Checks.due(x.doneAt(LAST_MOMENT - 1439, 480), LAST_MOMENT - 1439 + 1020);
    Checks.due(x.doneAt(LAST_MOMENT - 1439, 481), -1);
    for (int work : new int[] {0, 10001, -1, Integer.MIN_VALUE, Integer.MAX_VALUE}) {
      Checks.noArgument(() -> x.doneAt(0, work));
      Checks.noIndex(() -> x.doneAt(-1, work));
    }
    Checks.noIndex(() -> x.doneAt(LAST_MOMENT + 1, 1));
    Checks.noIndex(() -> x.doneAt(Integer.MIN_VALUE, 1));

    // The last MOMENT is worked, but what is done then is done behind the last MOMENT.
    x.setWeek(127);
    x.setHours(0, 1440);
    Checks.due(x.doneAt(LAST_MOMENT - 1, 1), LAST_MOMENT);
    Checks.due(x.doneAt(LAST_MOMENT - 1, 2), -1);
    Checks.due(x.doneAt(LAST_MOMENT, 1), -1);
    // One working minute a week, the last of its Monday: 50000 MOMENTS behind that are the most.
    x.setWeek(MONDAYS);
    x.setHours(1439, 1440);
    int seventh = 1440 * 7 * 5;
    Checks.due(x.doneAt(seventh + 1440 - 50000, 5), seventh + 1440);
    Checks.due(x.doneAt(seventh + 1440 - 50001, 6), -1);

    ZoneCalendar night = nightWork();
    int spring = 1440 * day(2000, 3, 26);
    Checks.due(night.doneAt(spring, 60), spring + 90);
    Checks.due(night.doneAt(spring, 61), spring + 1440 - 30 + 1);
  }
}
