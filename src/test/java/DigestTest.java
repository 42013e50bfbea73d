/** Promise 48, with numbers put in by hand, and that calls which throw change nothing. */
final class DigestTest {
  private DigestTest() {
  }

  static void run() {
    Checks.test("promise 48: digest of a new object", DigestTest::ofNewObject);
    Checks.test("promise 48: digest of patterns and places", DigestTest::ofPlaces);
    Checks.test("promise 48: digest of series", DigestTest::ofSeries);
    Checks.test("promise 48: digest of work", DigestTest::ofWork);
    Checks.test("edge, 48: a series without dates, with one and with two", DigestTest::ofFewDates);
    Checks.test("edge, 48: answers of -1", DigestTest::ofNone);
    Checks.test("edge, 48: just the year 2000, and from DAY 36600 on", DigestTest::ofEdgesOfDays);
    Checks.test("edge, 48: just the MOMENTS and LOCAL times that are named", DigestTest::ofEdgesOfClocks);
    Checks.test("edge, 48: just 20 DAYS, 400 days and 20000 minutes", DigestTest::ofEdgesOfWork);
    Checks.test("edge, 48: a full object, over the end of 64 bits", DigestTest::ofFullObject);
    Checks.test("calls that throw change nothing", DigestTest::unchangedByThrows);
  }

  private static long sum(long before, long... values) {
    long sum = before;
    for (long value : values) {
      sum = sum * 31 + value;
    }
    return sum;
  }

  /** What the calendar of work adds as it is at first. DAY 36500 is a Wednesday, and begins at MOMENT 52560000. */
  private static long sumWithFirstWork(long before) {
    long sum = before;
    for (int k = 0; k < 20; k++) {
      sum = sum(sum, -1, (k + 2) % 7 < 5 ? 1 : 0);
    }
    return sum(sum, 286, 36528, 10 * 480, 52560000 + 8 * 1440 + 660);
  }

  private static void ofNewObject() {
    ZoneCalendar x = new ZoneCalendar();
    Checks.due(x.digest(), sumWithFirstWork(sum(2441, 0, 0, 0)));
    Checks.due(x.digest(), sumWithFirstWork(sum(2441, 0, 0, 0)));
  }

  private static void ofPlaces() {
    ZoneCalendar x = new ZoneCalendar();
    x.addPattern(3, 15, 1);
    x.addPattern(0, 0, 31);
    x.addPattern(2, 0, 30);
    long patterns = sum(2441, 3, 1, 36609, 7, 36614, 0, -1);
    Checks.due(x.digest(), sumWithFirstWork(sum(patterns, 0, 0)));
    x.addPlace(60);
    x.addPlace(-300);
    x.addTurn(0, 2000, 2000, 0, 60, 2, 60);
    x.addTurn(1, 1999, 1999, 0, 60, 2, 30);
    long first = sum(patterns, 2, 0, 52596060, 1440 * 36609 + 60, 1, 52740000, 52740000);
    long second = sum(first, 30, 52595730, -1, 1, 52740390, 52740390);
    Checks.due(x.digest(), sumWithFirstWork(sum(second, 0)));
    // 2:00 on April 11th, 2000, which the clock shows not at all, and twice.
    ZoneCalendar y = new ZoneCalendar();
    y.addPattern(4, 0, 11);
    y.addPlace(0);
    y.addPlace(0);
    y.addTurn(0, 2000, 2000, 0, 100, 2, 60);
    y.addTurn(1, 1999, 1999, 0, 0, 2, 60);
    y.addTurn(1, 2000, 2000, 0, 61, 2, 0);
    long gap = sum(2441, 1, 1, 36625, 2, 0, 52596000, 52740100, 0, 52740100, -1);
    long twice = sum(gap, 60, 52596060, 52740061, 2, 52740060, 52740120);
    Checks.due(y.digest(), sumWithFirstWork(sum(twice, 0)));
  }

  private static void ofSeries() {
    ZoneCalendar x = new ZoneCalendar();
    x.addPlace(0);
    long places = sum(2441, 0, 1, 0, 52596000, -1, 1, 52740120, 52740120);
    int day = 36500;
    x.addSeries(0, 1440 * day + 5, 0, 2, 0);
    x.setLast(0, day + 7);
    x.addSeries(0, 1440 * day + 6, 0, 1, 0);
    x.setMost(1, 1);
    x.addSeries(0, 1440 * day + 7, 0, 1, 0);
    x.setChoice(2, 2);
    x.addSeries(0, 1440 * day + 8, 0, 3, 0);
    x.setMost(3, 3);
    x.except(3, day + 3);
    long first = sum(places, 4, 4, 2, day, 1440 * day + 5, day + 6, 1440 * (day + 6) + 5, 4, 1, 0, 2);
    long second = sum(first, 1, 0, day, 1440 * day + 6, 1, 1, 0, 1);
    long third = sum(second, 0, 0);
    long fourth = sum(third, 2, 6, day, 1440 * day + 8, day + 6, 1440 * (day + 6) + 8, 2, 1, 0, 2);
    Checks.due(x.digest(), sumWithFirstWork(fourth));
  }

  private static void ofWork() {
    ZoneCalendar x = new ZoneCalendar();
    x.addPattern(0, 0, 10);
    x.addPattern(12, 0, 11);
    x.addFeast(1900, 2099, 1, 0);
    x.addFeast(1999, 1999, 0, 1);
    // DAY 36500 is December 8th, 1999; the 10th is a Friday, the 11th a Saturday.
    long sum = sum(2441, 2, 12, 36624, 1, 36869, 0, 0);
    for (int k = 0; k < 20; k++) {
      sum = sum(sum, k == 2 ? 1 : k == 3 ? 0 : -1, (k + 2) % 7 < 5 && k != 2 ? 1 : 0);
    }
    // Of 286 one day is the 10th, and December 11th, 2000, a Monday.
    sum = sum(sum, 284, 36529, 9 * 480, 52560000 + 9 * 1440 + 660);
    Checks.due(x.digest(), sum);
  }

  /** The digest once more, of what the calls answer, with how many there are of everything told. */
  private static long told(ZoneCalendar x, int patterns, int places, int series) {
    long sum = sum(2441, patterns);
    for (int k = 0; k < patterns; k++) {
      sum = sum(sum, x.daysTold(k, 2000), x.nextTold(k, 36600));
    }
    sum = sum(sum, places);
    for (int k = 0; k < places; k++) {
      sum = sum(sum, x.savingAt(k, 52596000), x.localAt(k, 52596000), x.nextChange(k, 52596000));
      sum = sum(sum, x.showsOften(k, 52740120), x.momentOf(k, 52740120), x.lastMomentOf(k, 52740120));
    }
    sum = sum(sum, series);
    for (int k = 0; k < series; k++) {
      int last = x.dates(k) - 1;
      sum = sum(sum, last + 1, x.widestGap(k));
      if (last >= 0) {
        sum = sum(sum, x.dateAt(k, 0), x.dateMoment(k, 0));
      }
      if (last >= 1) {
        sum = sum(sum, x.dateAt(k, last), x.dateMoment(k, last));
      }
      for (int other = 0; last >= 0 && other < series; other++) {
        sum = sum(sum, x.common(k, other));
      }
    }
    for (int day = 36500; day < 36520; day++) {
      sum = sum(sum, x.feastOn(day), x.isWorking(day) ? 1 : 0);
    }
    sum = sum(sum, x.workingDays(36500, 400), x.plusWorking(36500, 20));
    return sum(sum, x.workWithin(52560000, 20000), x.doneAt(52560000, 3000));
  }

  private static void ofFewDates() {
    ZoneCalendar x = new ZoneCalendar();
    x.addPlace(0);
    for (int k = 0; k < 3; k++) {
      x.addSeries(0, 1440 * 36500 + k, 0, 1, 0);
      x.setLast(k, 36500 + Math.max(0, k - 1));
    }
    x.except(0, 36500);
    Checks.due(x.dates(0), 0);
    Checks.due(x.dates(1), 1);
    Checks.due(x.dates(2), 2);
    long sum = sum(2441, 0, 1, 0, 52596000, -1, 1, 52740120, 52740120, 3, 0, 0);
    sum = sum(sum, 1, 0, 36500, 52560001, 0, 1, 1);
    sum = sum(sum, 2, 1, 36500, 52560002, 36501, 52561442, 0, 1, 2);
    Checks.due(x.digest(), sumWithFirstWork(sum));
    Checks.due(x.digest(), told(x, 0, 1, 3));
  }

  private static void ofNone() {
    // Pattern 0 tells nothing; the series begins ahead of MOMENT 0; work is a minute of each Sunday.
    ZoneCalendar x = new ZoneCalendar();
    x.addPattern(2, 0, 30);
    x.addPlace(60);
    x.addSeries(0, 59, 0, 1, 0);
    x.setLast(0, 0);
    x.setWeek(64);
    x.setHours(1439, 1440);
    long sum = sum(2441, 1, 0, -1, 1, 0, 52596060, -1, 1, 52740060, 52740060, 1, 1, 0, 0, -1, 1);
    for (int k = 0; k < 20; k++) {
      // DAY 36500 is a Wednesday.
      sum = sum(sum, -1, k % 7 == 4 ? 1 : 0);
    }
    sum = sum(sum, 57, 36504 + 19 * 7, 2, -1);
    Checks.due(x.digest(), sum);
  }

  private static void ofEdgesOfDays() {
    ZoneCalendar x = new ZoneCalendar();
    x.addPattern(2, 0, 29);
    x.addPattern(3, 0, 16);
    x.addPattern(3, 0, 17);
    // DAY 36600 is March 17th, 2000.
    long sum = sum(2441, 3, 1, 36583 + 1461, 1, 36600 - 1 + 365, 1, 36600, 0, 0);
    Checks.due(x.digest(), sumWithFirstWork(sum));
  }

  private static void ofEdgesOfClocks() {
    // MOMENT 52596000 is the beginning of January 2nd, 2000, LOCAL 52740120 2:00 on April 11th.
    ZoneCalendar x = new ZoneCalendar();
    x.addPattern(1, 0, 1);
    x.addPattern(1, 0, 2);
    x.addPattern(4, 0, 11);
    long sum = sum(2441, 3, 1, 36890, 1, 36891, 1, 36625);
    for (int k = 0; k < 4; k++) {
      x.addPlace(0);
    }
    // From that MOMENT on, from the one ahead of it, and from the one behind it.
    x.addTurn(0, 2000, 2000, 1, 0, 2, 60);
    x.addTurn(1, 2000, 2000, 0, 1439, 2, 60);
    x.addTurn(2, 2000, 2000, 1, 1, 2, 60);
    // Put forward by a minute, over just that LOCAL time.
    x.addTurn(3, 2000, 2000, 2, 120, 2, 1);
    Checks.due(x.savingAt(3, 52740120), 1);
    sum = sum(sum, 4, 60, 52596060, -1, 1, 52740060, 52740060);
    sum = sum(sum, 60, 52596060, -1, 1, 52740060, 52740060);
    sum = sum(sum, 0, 52596000, 52596001, 1, 52740060, 52740060);
    sum = sum(sum, 0, 52596000, 52740120, 0, 52740120, -1);
    Checks.due(x.digest(), sumWithFirstWork(sum(sum, 0)));
  }

  /** The digest of a calendar with this week and these hours, and a feast on December 7th, 8th, 27th and 28th, 1999. */
  private static long withFeasts(int week, int first, int last, long... work) {
    ZoneCalendar x = new ZoneCalendar();
    long due = sum(2441, 4);
    int[] dates = {7, 8, 27, 28};
    for (int k = 0; k < 4; k++) {
      x.addFeast(1999, 1999, x.addPattern(12, 0, dates[k]), 0);
      due = sum(due, 1, 36858 + dates[k]);
    }
    x.setWeek(week);
    x.setHours(first, last);
    due = sum(due, 0, 0);
    for (int k = 0; k < 20; k++) {
      // DAY 36500 is Wednesday, December 8th, 36519 is December 27th.
      boolean works = (week >> (k + 2) % 7 & 1) == 1 && k != 0 && k != 19;
      due = sum(due, k == 0 ? 1 : k == 19 ? 2 : -1, works ? 1 : 0);
    }
    Checks.due(x.digest(), sum(due, work));
    return due;
  }

  private static void ofEdgesOfWork() {
    // 20000 minutes from the beginning of DAY 36500 on end with minute 1279 of the 14th day, DAY 36513, a Tuesday.
    withFeasts(127, 0, 1440, 400 - 3, 36500 + 22, 20000 - 1440, 52560000 + 1440 + 3000);
    withFeasts(2, 1279, 1280, 57 - 1, 36506 + 20 * 7, 2, -1);
    withFeasts(2, 1280, 1281, 57 - 1, 36506 + 20 * 7, 1, -1);
    withFeasts(2, 1439, 1440, 57 - 1, 36506 + 20 * 7, 1, -1);
    // Of the Wednesdays DAY 36500 is a feast; without one it would be worked from its first minute on.
    withFeasts(4, 0, 1, 58 - 1, 36500 + 20 * 7, 1, -1);
    ZoneCalendar x = new ZoneCalendar();
    x.setWeek(4);
    x.setHours(0, 1);
    long sum = sum(2441, 0, 0, 0);
    for (int k = 0; k < 20; k++) {
      sum = sum(sum, -1, k % 7 == 0 ? 1 : 0);
    }
    Checks.due(x.digest(), sum(sum, 58, 36500 + 20 * 7, 2, -1));
  }

  private static void ofFullObject() {
    ZoneCalendar x = new ZoneCalendar();
    for (int k = 0; k < 24; k++) {
      x.addPattern(k % 2 == 0 ? 1 + k / 2 : 0, k % 2 == 0 ? k % 16 : 16, k % 2 == 0 ? 1 + k % 5 : 90 + k);
    }
    for (int k = 0; k < 6; k++) {
      x.addPlace(168 * k - 420);
      x.addSeries(k, 52560000 + 1000 * k, k % 4, 1 + k, 0);
      for (int turn = 0; turn < 6; turn++) {
        x.addTurn(k, 1990 + k, 2010 - k, (7 * turn + k) % 24, 100 * turn, turn % 3, 30 * turn);
      }
      x.usePattern(k, k);
    }
    for (int k = 0; k < 20; k++) {
      x.addFeast(1990, 2010, k, k % 4);
    }
    x.setWorkPlace(3);
    Checks.due(x.digest(), told(x, 24, 6, 6));
    // No call changes it but those that change something.
    Checks.due(x.digest(), told(x, 24, 6, 6));
  }

  private static void unchangedByThrows() {
    ZoneCalendar x = new ZoneCalendar();
    for (int k = 0; k < 24; k++) {
      x.addPattern(1 + k % 12, 0, 1 + k);
    }
    for (int k = 0; k < 6; k++) {
      x.addPlace(60 * k);
      x.addSeries(k, 52596000, k % 4, 1 + k, 0);
    }
    for (int k = 0; k < 6; k++) {
      x.addTurn(0, 1990, 2010, k, 60, 0, 10 * k);
    }
    for (int k = 0; k < 4; k++) {
      x.usePattern(5, k);
    }
    for (int k = 0; k < 8; k++) {
      x.except(0, 36525 + 2 * k);
    }
    for (int k = 0; k < 20; k++) {
      x.addFeast(1990, 2010, k, k % 4);
    }
    x.setWorkPlace(0);
    long before = x.digest();
    Checks.noState(() -> x.addPattern(1, 0, 1));
    Checks.noState(() -> x.addPlace(0));
    Checks.noState(() -> x.addTurn(0, 1999, 2001, 0, 0, 0, 100));
    Checks.noArgument(() -> x.addTurn(1, 1999, 2001, 0, 0, 0, 181));
    Checks.noState(() -> x.addSeries(0, 52596000, 0, 1, 0));
    Checks.noState(() -> x.usePattern(5, 7));
    Checks.noIndex(() -> x.usePattern(0, 24));
    Checks.noArgument(() -> x.setChoice(0, 7));
    Checks.noArgument(() -> x.setMost(0, 501));
    Checks.noArgument(() -> x.setLast(0, 0));
    Checks.noState(() -> x.except(0, 36526));
    Checks.noIndex(() -> x.except(1, 73049));
    Checks.noIndex(() -> x.setWorkPlace(6));
    Checks.noArgument(() -> x.setWeek(128));
    Checks.noArgument(() -> x.setHours(10, 1441));
    Checks.noArgument(() -> x.setHours(1440, 1441));
    Checks.noState(() -> x.addFeast(1990, 2010, 0, 0));
    Checks.due(x.digest(), before);
    Checks.due(x.setChoice(0, 0), 0);
    Checks.due(x.setMost(0, 0), 0);
    Checks.due(x.setLast(0, 36525), 40525);
    Checks.due(x.setWorkPlace(1), 0);
    Checks.due(x.setWeek(31), 31);
  }
}
