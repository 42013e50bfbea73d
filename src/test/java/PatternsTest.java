/** Promises 11 to 14. */
final class PatternsTest {
  private static final int LAST_DAY = 73048;

  private PatternsTest() {
  }

  static void run() {
    Checks.test("promise 11: addPattern", PatternsTest::addPattern);
    Checks.test("promise 11: addPattern, wrong inputs", PatternsTest::addWrongPattern);
    Checks.test("promise 12: daysTold", PatternsTest::daysTold);
    Checks.test("promise 13: tells", PatternsTest::tells);
    Checks.test("promise 13: tells, all DAYS", PatternsTest::tellsAllDays);
    Checks.test("promise 14: nextTold", PatternsTest::nextTold);
  }

  private static int day(int year, int month, int day) {
    return SlowCalendar.day(year, month, day);
  }

  private static void addPattern() {
    ZoneCalendar x = new ZoneCalendar();
    int[][] right = {
      {0, 0, 1}, {12, 0, 31}, {1, 1, 31}, {0, 2, 1}, {0, 2, 5}, {12, 8, 5}, {0, 9, 1}, {5, 15, 5}, {0, 16, 1},
      {0, 16, 200}};
    for (int k = 0; k < right.length; k++) {
      Checks.due(x.addPattern(right[k][0], right[k][1], right[k][2]), k);
    }
    for (int k = right.length; k < 24; k++) {
      Checks.due(x.addPattern(0, 0, k), k);
    }
    Checks.noState(() -> x.addPattern(0, 0, 1));
    Checks.noArgument(() -> x.addPattern(0, 17, 1));
    Checks.noArgument(() -> x.addPattern(1, 16, 1));
    Checks.due(x.daysTold(23, 2000), 12);
    Checks.noIndex(() -> x.daysTold(24, 2000));
  }

  private static void addWrongPattern() {
    ZoneCalendar x = new ZoneCalendar();
    int[][] wrong = {
      {-1, 0, 1}, {13, 0, 1}, {Integer.MIN_VALUE, 0, 1}, {Integer.MAX_VALUE, 0, 1},
      {0, -1, 1}, {0, 17, 1}, {0, Integer.MIN_VALUE, 1}, {0, Integer.MAX_VALUE, 1},
      {0, 0, 0}, {0, 0, 32}, {0, 1, 0}, {0, 1, 32}, {0, 2, 0}, {0, 2, 6}, {0, 8, 6}, {0, 9, 0}, {0, 15, 6},
      {0, 16, 0}, {0, 16, 201}, {1, 16, 1}, {12, 16, 200}, {0, 16, -1}, {0, 0, Integer.MAX_VALUE}};
    for (int[] each : wrong) {
      Checks.noArgument(() -> x.addPattern(each[0], each[1], each[2]));
    }
    // Nothing was added by any of them.
    Checks.noIndex(() -> x.tells(0, 0));
    Checks.due(x.addPattern(0, 0, 1), 0);
  }

  private static void daysTold() {
    ZoneCalendar x = new ZoneCalendar();
    int[][] due = {
      // month, kind, number, then how many days of 1900, 1999 and 2000
      {0, 0, 31, 7, 7, 7}, {0, 0, 30, 11, 11, 11}, {0, 0, 29, 11, 11, 12}, {2, 0, 29, 0, 0, 1}, {2, 0, 30, 0, 0, 0},
      {0, 1, 1, 12, 12, 12}, {0, 1, 29, 11, 11, 12}, {2, 1, 29, 0, 0, 1}, {0, 1, 31, 7, 7, 7},
      {0, 8, 5, 4, 4, 5}, {0, 15, 5, 4, 4, 5}, {5, 8, 2, 1, 1, 1}, {0, 4, 1, 12, 12, 12},
      {0, 16, 100, 1, 1, 1}, {0, 16, 200, 1, 1, 1}, {0, 16, 1, 1, 0, 1}};
    for (int k = 0; k < due.length; k++) {
      x.addPattern(due[k][0], due[k][1], due[k][2]);
      Checks.due("pattern " + k + " in 1900", x.daysTold(k, 1900), due[k][3]);
      Checks.due("pattern " + k + " in 1999", x.daysTold(k, 1999), due[k][4]);
      Checks.due("pattern " + k + " in 2000", x.daysTold(k, 2000), due[k][5]);
    }
    // Easter of 1913 is March 23rd, the 82nd day: 82 days ahead of it there is no day of that year.
    int none = x.addPattern(0, 16, 18);
    int one = x.addPattern(0, 16, 19);
    Checks.due(x.daysTold(none, 1913), 0);
    Checks.due(x.daysTold(one, 1913), 1);
    Checks.due(x.tells(one, day(1913, 1, 1)), true);
    Checks.due(x.daysTold(none, 1912), 1);
    Checks.noArgument(() -> x.daysTold(0, 1899));
    Checks.noArgument(() -> x.daysTold(0, 2100));
    Checks.noIndex(() -> x.daysTold(-1, 2000));
    Checks.noIndex(() -> x.daysTold(18, 2000));
    Checks.noIndex(() -> x.daysTold(24, 1899));
    Checks.noIndex(() -> x.daysTold(Integer.MAX_VALUE, 1899));
  }

  private static void tells() {
    ZoneCalendar x = new ZoneCalendar();
    int[][] told = {
      // month, kind, number, then a date that is told
      {5, 8, 2, 2000, 5, 14}, {3, 15, 1, 2000, 3, 26}, {3, 1, 2, 2000, 3, 30}, {0, 3, 2, 2024, 7, 9},
      {0, 16, 101, 2000, 4, 24}, {0, 16, 98, 2000, 4, 21}, {0, 16, 149, 2000, 6, 11}, {2, 1, 1, 1900, 2, 28},
      {2, 1, 1, 2000, 2, 29}, {1, 2, 1, 1900, 1, 1}, {12, 5, 5, 2099, 12, 31}, {0, 9, 1, 2000, 2, 28},
      {0, 15, 5, 2000, 4, 2}, {0, 0, 31, 2000, 12, 31}};
    for (int k = 0; k < told.length; k++) {
      x.addPattern(told[k][0], told[k][1], told[k][2]);
      int day = day(told[k][3], told[k][4], told[k][5]);
      Checks.due("pattern " + k, x.tells(k, day), true);
      if (day > 0) {
        Checks.due("pattern " + k + " a day ahead", x.tells(k, day - 1), false);
      }
      if (day < LAST_DAY) {
        Checks.due("pattern " + k + " a day behind", x.tells(k, day + 1), false);
      }
    }
    Checks.noIndex(() -> x.tells(-1, 0));
    Checks.noIndex(() -> x.tells(told.length, 0));
    Checks.noIndex(() -> x.tells(0, -1));
    Checks.noIndex(() -> x.tells(0, LAST_DAY + 1));
    Checks.noIndex(() -> x.tells(0, Integer.MIN_VALUE));
  }

  private static void tellsAllDays() {
    int[][] patterns = new int[200][];
    int count = 0;
    for (int number : new int[] {1, 28, 29, 30, 31}) {
      for (int month : new int[] {0, 2, 12}) {
        patterns[count++] = new int[] {month, 0, number};
        patterns[count++] = new int[] {month, 1, number};
      }
    }
    for (int kind = 2; kind <= 15; kind++) {
      for (int number = 1; number <= 5; number++) {
        patterns[count++] = new int[] {kind % 3 == 0 ? kind - 3 : 0, kind, number};
      }
    }
    for (int number : new int[] {1, 9, 15, 18, 53, 98, 100, 139, 149, 160, 200}) {
      patterns[count++] = new int[] {0, 16, number};
    }
    for (int k = 0; k < count; k++) {
      ZoneCalendar x = new ZoneCalendar();
      SlowCalendar slow = new SlowCalendar();
      x.addPattern(patterns[k][0], patterns[k][1], patterns[k][2]);
      slow.addPattern(patterns[k][0], patterns[k][1], patterns[k][2]);
      for (int day = 0; day <= LAST_DAY; day++) {
        if (x.tells(0, day) != slow.tells(0, day)) {
          Checks.due("pattern " + k + " on DAY " + day, x.tells(0, day), slow.tells(0, day));
        }
      }
      for (int year = 1900; year <= 2099; year++) {
        Checks.due("pattern " + k + " in " + year, x.daysTold(0, year), slow.daysTold(0, year));
      }
      for (int day = 0; day <= LAST_DAY; day += 97) {
        Checks.due("pattern " + k + " from DAY " + day, x.nextTold(0, day), slow.nextTold(0, day));
      }
    }
  }

  private static void nextTold() {
    ZoneCalendar x = new ZoneCalendar();
    int leap = x.addPattern(2, 0, 29);
    int never = x.addPattern(2, 0, 30);
    int monthEnd = x.addPattern(0, 1, 1);
    int christmas = x.addPattern(12, 0, 25);
    int easter = x.addPattern(0, 16, 100);
    Checks.due(x.nextTold(leap, 0), day(1904, 2, 29));
    Checks.due(x.nextTold(leap, day(2000, 2, 29)), day(2000, 2, 29));
    Checks.due(x.nextTold(leap, day(2000, 3, 1)), day(2004, 2, 29));
    Checks.due(x.nextTold(leap, day(2096, 2, 29)), day(2096, 2, 29));
    Checks.due(x.nextTold(leap, day(2096, 3, 1)), -1);
    Checks.due(x.nextTold(never, 0), -1);
    Checks.due(x.nextTold(monthEnd, LAST_DAY), LAST_DAY);
    Checks.due(x.nextTold(monthEnd, 31), 58);
    Checks.due(x.nextTold(christmas, day(2099, 12, 25)), day(2099, 12, 25));
    Checks.due(x.nextTold(christmas, day(2099, 12, 26)), -1);
    Checks.due(x.nextTold(easter, day(2000, 4, 23)), day(2000, 4, 23));
    Checks.due(x.nextTold(easter, day(2000, 4, 24)), day(2001, 4, 15));
    Checks.noIndex(() -> x.nextTold(5, 0));
    Checks.noIndex(() -> x.nextTold(-1, 0));
    Checks.noIndex(() -> x.nextTold(0, -1));
    Checks.noIndex(() -> x.nextTold(0, LAST_DAY + 1));
    Checks.noIndex(() -> x.nextTold(0, Integer.MAX_VALUE));
  }
}
