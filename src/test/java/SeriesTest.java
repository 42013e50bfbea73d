/** Promises 24 to 35, and 47. */
final class SeriesTest {
  private static final int LAST_DAY = 73048;
  private static final int LAST_MOMENT = 105190559;
  private static final int DAYS = 0;
  private static final int WEEKS = 1;
  private static final int MONTHS = 2;
  private static final int YEARS = 3;

  private SeriesTest() {
  }

  static void run() {
    Checks.test("promise 24: addSeries", SeriesTest::addSeries);
    Checks.test("promise 24: addSeries, wrong inputs", SeriesTest::addWrongSeries);
    Checks.test("promise 24: addSeries, days", SeriesTest::days);
    Checks.test("promise 24: addSeries, weeks", SeriesTest::weeks);
    Checks.test("promise 24: addSeries, months", SeriesTest::months);
    Checks.test("promise 24: addSeries, years", SeriesTest::years);
    Checks.test("promise 25: usePattern", SeriesTest::usePattern);
    Checks.test("promise 26: setChoice", SeriesTest::setChoice);
    Checks.test("promise 26: setChoice, at the ends", SeriesTest::setChoiceAtEnds);
    Checks.test("promise 27: setMost", SeriesTest::setMost);
    Checks.test("promise 28: setLast", SeriesTest::setLast);
    Checks.test("promise 29: except", SeriesTest::except);
    Checks.test("promise 30: dates", SeriesTest::dates);
    Checks.test("promise 31: dateAt", SeriesTest::dateAt);
    Checks.test("promise 32: dateFrom", SeriesTest::dateFrom);
    Checks.test("promise 33: dateMoment", SeriesTest::dateMoment);
    Checks.test("promise 34: common", SeriesTest::common);
    Checks.test("promise 35: widestGap", SeriesTest::widestGap);
    Checks.test("promise 47: meanGap", SeriesTest::meanGap);
  }

  private static int day(int year, int month, int day) {
    return SlowCalendar.day(year, month, day);
  }

  private static ZoneCalendar place() {
    ZoneCalendar x = new ZoneCalendar();
    x.addPlace(0);
    return x;
  }

  private static int series(ZoneCalendar x, int day, int kind, int step, int weekdays) {
    return x.addSeries(0, 1440 * day + 600, kind, step, weekdays);
  }

  private static void datesAre(ZoneCalendar x, int series, int... days) {
    Checks.due("how many dates", x.dates(series), days.length);
    for (int k = 0; k < days.length && k < x.dates(series); k++) {
      Checks.due("date " + k, x.dateAt(series, k), days[k]);
    }
  }

  private static void firstDatesAre(ZoneCalendar x, int series, int... days) {
    Checks.due("enough dates", x.dates(series) >= days.length, true);
    for (int k = 0; k < days.length && k < x.dates(series); k++) {
      Checks.due("date " + k, x.dateAt(series, k), days[k]);
    }
  }

  private static void addSeries() {
    ZoneCalendar x = place();
    Checks.due(x.addSeries(0, 0, DAYS, 1, 0), 0);
    Checks.due(x.addSeries(0, LAST_MOMENT, YEARS, 60, 127), 1);
    Checks.noIndex(() -> x.dates(2));
    Checks.due(x.addSeries(0, 1440, WEEKS, 1, 1), 2);
    Checks.due(x.addSeries(0, 1440, WEEKS, 1, 64), 3);
    Checks.due(x.addSeries(0, 1440, MONTHS, 1, 0), 4);
    Checks.due(x.addSeries(0, 1440, MONTHS, 1, 0), 5);
    Checks.noState(() -> x.addSeries(0, 1440, MONTHS, 1, 0));
    Checks.noArgument(() -> x.addSeries(0, 1440, 4, 1, 0));
    Checks.noIndex(() -> x.addSeries(1, 1440, MONTHS, 1, 0));
    Checks.due(x.dates(0), 4001);
    datesAre(x, 1, LAST_DAY);
  }

  private static void addWrongSeries() {
    ZoneCalendar x = place();
    for (int begin : new int[] {-1, LAST_MOMENT + 1, Integer.MIN_VALUE, Integer.MAX_VALUE}) {
      Checks.noArgument(() -> x.addSeries(0, begin, DAYS, 1, 0));
    }
    for (int kind : new int[] {-1, 4, Integer.MIN_VALUE, Integer.MAX_VALUE}) {
      Checks.noArgument(() -> x.addSeries(0, 0, kind, 1, 0));
    }
    for (int step : new int[] {0, 61, -1, Integer.MIN_VALUE, Integer.MAX_VALUE}) {
      Checks.noArgument(() -> x.addSeries(0, 0, DAYS, step, 0));
    }
    for (int weekdays : new int[] {-1, 128, Integer.MIN_VALUE, Integer.MAX_VALUE}) {
      Checks.noArgument(() -> x.addSeries(0, 0, DAYS, 1, weekdays));
    }
    for (int none : new int[] {-1, 1, 6, Integer.MAX_VALUE}) {
      Checks.noIndex(() -> x.addSeries(none, -1, 4, 0, -1));
    }
    Checks.noIndex(() -> x.dates(0));
    Checks.due(x.addSeries(0, 0, DAYS, 1, 0), 0);
  }

  private static void days() {
    ZoneCalendar x = place();
    int begin = day(2000, 1, 1);
    int every = series(x, begin, DAYS, 1, 0);
    Checks.due(x.dates(every), 4001);
    Checks.due(x.dateAt(every, 4000), begin + 4000);
    int third = series(x, begin, DAYS, 3, 0);
    firstDatesAre(x, third, begin, begin + 3, begin + 6);
    Checks.due(x.dates(third), 1334);
    // A Saturday: of each third day only those that are a Saturday or a Monday.
    int some = series(x, begin, DAYS, 3, 32 + 1);
    firstDatesAre(x, some, begin, begin + 9, begin + 21, begin + 30);
    int end = series(x, LAST_DAY - 10, DAYS, 4, 0);
    datesAre(x, end, LAST_DAY - 10, LAST_DAY - 6, LAST_DAY - 2);
  }

  private static void weeks() {
    ZoneCalendar x = place();
    int wednesday = day(2000, 1, 5);
    int plain = series(x, wednesday, WEEKS, 1, 0);
    firstDatesAre(x, plain, wednesday, wednesday + 7, wednesday + 14);
    Checks.due(x.dates(plain), 572);
    int second = series(x, wednesday, WEEKS, 2, 1 + 4 + 64);
    // Monday the 3rd is ahead of begin; Sunday the 9th is still of the first week.
    firstDatesAre(x, second, wednesday, wednesday + 4, wednesday + 12, wednesday + 14, wednesday + 18);
    int end = series(x, LAST_DAY - 8, WEEKS, 1, 127);
    datesAre(x, end, LAST_DAY - 8, LAST_DAY - 7, LAST_DAY - 6, LAST_DAY - 5, LAST_DAY - 4, LAST_DAY - 3,
        LAST_DAY - 2, LAST_DAY - 1, LAST_DAY);
    // With a pattern and without weekdays all days that it tells count.
    int told = series(x, wednesday, WEEKS, 1, 0);
    x.addPattern(1, 0, 8);
    x.usePattern(told, 0);
    firstDatesAre(x, told, day(2000, 1, 8), day(2001, 1, 8));
  }

  private static void months() {
    ZoneCalendar x = place();
    int plain = series(x, day(2000, 1, 31), MONTHS, 1, 0);
    firstDatesAre(x, plain, day(2000, 1, 31), day(2000, 3, 31), day(2000, 5, 31), day(2000, 7, 31), day(2000, 8, 31));
    int fifth = series(x, day(2000, 1, 31), MONTHS, 5, 0);
    // January, June (without), November (without), April 2001 (without), September (without), February, July 2002.
    firstDatesAre(x, fifth, day(2000, 1, 31), day(2002, 7, 31));
    int friday13th = series(x, day(2000, 1, 13), MONTHS, 1, 16);
    firstDatesAre(x, friday13th, day(2000, 10, 13), day(2001, 4, 13), day(2001, 7, 13), day(2002, 9, 13));
    x.addPattern(0, 3, 2);
    int tuesdays = series(x, day(2000, 1, 12), MONTHS, 1, 0);
    x.usePattern(tuesdays, 0);
    // The second Tuesday of January was the 11th, ahead of begin.
    firstDatesAre(x, tuesdays, day(2000, 2, 8), day(2000, 3, 14));
    x.addPattern(0, 1, 2);
    int lastButOne = series(x, day(2000, 1, 1), MONTHS, 3, 0);
    x.usePattern(lastButOne, 1);
    firstDatesAre(x, lastButOne, day(2000, 1, 30), day(2000, 4, 29), day(2000, 7, 30));
  }

  private static void years() {
    ZoneCalendar x = place();
    int leap = series(x, day(1996, 2, 29), YEARS, 1, 0);
    datesAre(x, leap, day(1996, 2, 29), day(2000, 2, 29), day(2004, 2, 29));
    int third = series(x, day(2000, 12, 31), YEARS, 3, 0);
    datesAre(x, third, day(2000, 12, 31), day(2003, 12, 31), day(2006, 12, 31), day(2009, 12, 31));
    x.addPattern(5, 8, 2);
    int mothers = series(x, day(2000, 6, 1), YEARS, 1, 0);
    x.usePattern(mothers, 0);
    firstDatesAre(x, mothers, day(2001, 5, 13), day(2002, 5, 12));
    int end = series(x, day(2098, 3, 1), YEARS, 1, 0);
    datesAre(x, end, day(2098, 3, 1), day(2099, 3, 1));
  }

  private static void usePattern() {
    ZoneCalendar x = place();
    int months = series(x, day(2000, 1, 10), MONTHS, 1, 0);
    x.addPattern(0, 0, 20);
    x.addPattern(0, 0, 5);
    Checks.due(x.usePattern(months, 0), 1);
    firstDatesAre(x, months, day(2000, 1, 20), day(2000, 2, 20));
    Checks.due(x.usePattern(months, 1), 2);
    firstDatesAre(x, months, day(2000, 1, 20), day(2000, 2, 5), day(2000, 2, 20));
    Checks.due(x.usePattern(months, 0), 3);
    firstDatesAre(x, months, day(2000, 1, 20), day(2000, 2, 5), day(2000, 2, 20));
    Checks.due(x.usePattern(months, 0), 4);
    Checks.noState(() -> x.usePattern(months, 0));
    Checks.noIndex(() -> x.usePattern(months, 2));
    Checks.noIndex(() -> x.usePattern(months, -1));
    Checks.noIndex(() -> x.usePattern(1, 0));
    Checks.noIndex(() -> x.usePattern(-1, 0));
    firstDatesAre(x, months, day(2000, 1, 20), day(2000, 2, 5), day(2000, 2, 20));
    // Days: only those of each second day that are told.
    int days = series(x, day(2000, 1, 1), DAYS, 2, 0);
    x.usePattern(days, 1);
    firstDatesAre(x, days, day(2000, 1, 5), day(2000, 3, 5), day(2000, 6, 5));
  }

  private static void setChoice() {
    ZoneCalendar x = place();
    int months = series(x, day(2000, 1, 1), MONTHS, 1, 0);
    x.addPattern(0, 0, 7);
    x.addPattern(0, 0, 14);
    x.addPattern(0, 0, 30);
    x.usePattern(months, 2);
    x.usePattern(months, 0);
    x.usePattern(months, 1);
    Checks.due(x.setChoice(months, 1), 0);
    firstDatesAre(x, months, day(2000, 1, 7), day(2000, 2, 7), day(2000, 3, 7));
    Checks.due(x.setChoice(months, 2), 1);
    firstDatesAre(x, months, day(2000, 1, 14), day(2000, 2, 14), day(2000, 3, 14));
    Checks.due(x.setChoice(months, 3), 2);
    firstDatesAre(x, months, day(2000, 1, 30), day(2000, 3, 30), day(2000, 4, 30));
    Checks.due(x.setChoice(months, -1), 3);
    firstDatesAre(x, months, day(2000, 1, 30), day(2000, 2, 14), day(2000, 3, 30));
    Checks.due(x.setChoice(months, -3), -1);
    firstDatesAre(x, months, day(2000, 1, 7), day(2000, 3, 7));
    Checks.due(x.setChoice(months, 4), -3);
    datesAre(x, months);
    Checks.due(x.setChoice(months, -6), 4);
    datesAre(x, months);
    Checks.due(x.setChoice(months, 6), -6);
    Checks.due(x.setChoice(months, 0), 6);
    firstDatesAre(x, months, day(2000, 1, 7), day(2000, 1, 14), day(2000, 1, 30));
    for (int choice : new int[] {-7, 7, Integer.MIN_VALUE, Integer.MAX_VALUE}) {
      Checks.noArgument(() -> x.setChoice(months, choice));
      Checks.noIndex(() -> x.setChoice(1, choice));
    }
    Checks.noIndex(() -> x.setChoice(-1, 0));
    Checks.due(x.setChoice(months, 0), 0);
  }

  private static void setChoiceAtEnds() {
    ZoneCalendar x = place();
    // The first of the days that count is chosen though it lies ahead of begin: then there is none of that span.
    int months = series(x, day(2000, 1, 10), MONTHS, 1, 0);
    x.addPattern(0, 0, 5);
    x.addPattern(0, 0, 20);
    x.usePattern(months, 0);
    x.usePattern(months, 1);
    x.setChoice(months, 1);
    firstDatesAre(x, months, day(2000, 2, 5), day(2000, 3, 5));
    // The last one is chosen though it lies behind the last DAY.
    x.setChoice(months, -1);
    x.setLast(months, day(2000, 3, 10));
    datesAre(x, months, day(2000, 1, 20), day(2000, 2, 20));
    x.setLast(months, day(2000, 3, 20));
    datesAre(x, months, day(2000, 1, 20), day(2000, 2, 20), day(2000, 3, 20));

    // So too in years, of which the first and the last one stand out most.
    int years = series(x, day(2000, 12, 31), YEARS, 1, 0);
    x.usePattern(years, 0);
    x.setChoice(years, 1);
    firstDatesAre(x, years, day(2001, 1, 5), day(2002, 1, 5));
    x.setChoice(years, -1);
    x.setLast(years, day(2002, 1, 1));
    datesAre(x, years, day(2001, 12, 5));

    // The span of the last DAY, February 2nd, 2011, goes on to December 31st, which is chosen and lies behind it.
    int long12 = series(x, day(2000, 2, 20), YEARS, 1, 0);
    int yearEnd = x.addPattern(12, 0, 31);
    int ahead = x.addPattern(2, 0, 1);
    x.usePattern(long12, yearEnd);
    x.usePattern(long12, ahead);
    x.setChoice(long12, -1);
    Checks.due(x.dates(long12), 11);
    Checks.due(x.dateAt(long12, 10), day(2010, 12, 31));
    x.setChoice(long12, -2);
    Checks.due(x.dates(long12), 11);
    Checks.due(x.dateAt(long12, 0), day(2001, 2, 1));
    Checks.due(x.dateAt(long12, 10), day(2011, 2, 1));

    // DAY 73048 is a Thursday; of its week there are no days behind it.
    int weeks = series(x, LAST_DAY - 7, WEEKS, 1, 127);
    x.setChoice(weeks, -1);
    datesAre(x, weeks, LAST_DAY - 4, LAST_DAY);
    x.setChoice(weeks, 5);
    datesAre(x, weeks, LAST_DAY - 6);
    x.setChoice(weeks, 4);
    datesAre(x, weeks, LAST_DAY - 7, LAST_DAY);
    int days = series(x, LAST_DAY - 2, DAYS, 1, 0);
    x.setChoice(days, 1);
    datesAre(x, days, LAST_DAY - 2, LAST_DAY - 1, LAST_DAY);
    x.setChoice(days, -1);
    datesAre(x, days, LAST_DAY - 2, LAST_DAY - 1, LAST_DAY);
    x.setChoice(days, 2);
    datesAre(x, days);
  }

  private static void setMost() {
    ZoneCalendar x = place();
    int begin = day(2000, 1, 1);
    int days = series(x, begin, DAYS, 1, 0);
    Checks.due(x.setMost(days, 3), 0);
    datesAre(x, days, begin, begin + 1, begin + 2);
    Checks.due(x.setMost(days, 500), 3);
    Checks.due(x.dates(days), 500);
    Checks.due(x.setMost(days, 1), 500);
    datesAre(x, days, begin);
    x.except(days, begin);
    // An exception counts for the most.
    datesAre(x, days);
    Checks.due(x.setMost(days, 2), 1);
    datesAre(x, days, begin + 1);
    Checks.due(x.setMost(days, 0), 2);
    Checks.due(x.dates(days), 4000);
    // What lies ahead of begin does not count for it.
    int weeks = series(x, day(2000, 1, 6), WEEKS, 1, 127);
    x.setMost(weeks, 2);
    datesAre(x, weeks, day(2000, 1, 6), day(2000, 1, 7));
    for (int most : new int[] {-1, 501, Integer.MIN_VALUE, Integer.MAX_VALUE}) {
      Checks.noArgument(() -> x.setMost(days, most));
      Checks.noIndex(() -> x.setMost(2, most));
    }
    Checks.noIndex(() -> x.setMost(-1, 0));
    Checks.due(x.setMost(days, 0), 0);
  }

  private static void setLast() {
    ZoneCalendar x = place();
    int begin = day(2000, 1, 1);
    int days = series(x, begin, DAYS, 1, 0);
    Checks.due(x.setLast(days, begin + 2), begin + 4000);
    datesAre(x, days, begin, begin + 1, begin + 2);
    Checks.due(x.setLast(days, begin), begin + 2);
    datesAre(x, days, begin);
    Checks.due(x.setLast(days, begin + 4000), begin);
    Checks.due(x.dates(days), 4001);
    Checks.noArgument(() -> x.setLast(days, begin - 1));
    Checks.noArgument(() -> x.setLast(days, begin + 4001));
    Checks.noArgument(() -> x.setLast(days, Integer.MIN_VALUE));
    Checks.noArgument(() -> x.setLast(days, Integer.MAX_VALUE));
    Checks.noIndex(() -> x.setLast(1, -1));
    Checks.noIndex(() -> x.setLast(-1, begin));
    Checks.due(x.setLast(days, begin + 7), begin + 4000);
    int end = series(x, LAST_DAY - 3999, DAYS, 1, 0);
    Checks.due(x.setLast(end, LAST_DAY), LAST_DAY);
    Checks.noArgument(() -> x.setLast(end, LAST_DAY + 1));
    int just = series(x, LAST_DAY - 4000, DAYS, 1, 0);
    Checks.due(x.setLast(just, LAST_DAY), LAST_DAY);
    int ahead = series(x, LAST_DAY - 4001, DAYS, 1, 0);
    Checks.noArgument(() -> x.setLast(ahead, LAST_DAY));
    Checks.due(x.setLast(ahead, LAST_DAY - 1), LAST_DAY - 1);
  }

  private static void except() {
    ZoneCalendar x = place();
    int begin = day(2000, 1, 1);
    int days = series(x, begin, DAYS, 1, 0);
    int other = series(x, begin, DAYS, 1, 0);
    x.setLast(days, begin + 3);
    Checks.due(x.except(days, begin + 1), 1);
    datesAre(x, days, begin, begin + 2, begin + 3);
    Checks.due(x.except(days, begin + 1), 1);
    Checks.due(x.except(days, 0), 2);
    Checks.due(x.except(days, LAST_DAY), 3);
    datesAre(x, days, begin, begin + 2, begin + 3);
    for (int k = 4; k <= 8; k++) {
      Checks.due(x.except(days, 100 + k), k);
    }
    Checks.noState(() -> x.except(days, begin));
    Checks.due(x.except(days, begin + 1), 8);
    Checks.due(x.except(days, 108), 8);
    Checks.noIndex(() -> x.except(days, -1));
    Checks.noIndex(() -> x.except(days, LAST_DAY + 1));
    Checks.noIndex(() -> x.except(2, 0));
    Checks.noIndex(() -> x.except(-1, 0));
    datesAre(x, days, begin, begin + 2, begin + 3);
    Checks.due(x.dates(other), 4001);
    Checks.due(x.except(other, begin + 4000), 1);
    Checks.due(x.dates(other), 4000);
  }

  private static void dates() {
    ZoneCalendar x = place();
    int none = series(x, day(2000, 1, 1), MONTHS, 1, 0);
    x.addPattern(2, 0, 30);
    Checks.due(x.dates(none), 132);
    x.usePattern(none, 0);
    Checks.due(x.dates(none), 0);
    Checks.noIndex(() -> x.dates(-1));
    Checks.noIndex(() -> x.dates(1));
    Checks.noIndex(() -> x.dates(6));
    Checks.noIndex(() -> x.dates(Integer.MIN_VALUE));
  }

  private static void dateAt() {
    ZoneCalendar x = place();
    int weeks = series(x, day(2000, 1, 5), WEEKS, 1, 0);
    x.setMost(weeks, 3);
    Checks.due(x.dateAt(weeks, 0), day(2000, 1, 5));
    Checks.due(x.dateAt(weeks, 2), day(2000, 1, 19));
    Checks.noIndex(() -> x.dateAt(weeks, 3));
    Checks.noIndex(() -> x.dateAt(weeks, -1));
    Checks.noIndex(() -> x.dateAt(weeks, 5000));
    Checks.noIndex(() -> x.dateAt(1, 0));
    Checks.noIndex(() -> x.dateAt(-1, 0));
  }

  private static void dateFrom() {
    ZoneCalendar x = place();
    int begin = day(2000, 1, 5);
    int weeks = series(x, begin, WEEKS, 1, 0);
    x.setMost(weeks, 3);
    Checks.due(x.dateFrom(weeks, 0), 0);
    Checks.due(x.dateFrom(weeks, begin), 0);
    Checks.due(x.dateFrom(weeks, begin + 1), 1);
    Checks.due(x.dateFrom(weeks, begin + 14), 2);
    Checks.due(x.dateFrom(weeks, begin + 15), -1);
    Checks.due(x.dateFrom(weeks, LAST_DAY), -1);
    x.except(weeks, begin);
    Checks.due(x.dateFrom(weeks, begin), 0);
    Checks.due(x.dateFrom(weeks, begin + 8), 1);
    Checks.noIndex(() -> x.dateFrom(weeks, -1));
    Checks.noIndex(() -> x.dateFrom(weeks, LAST_DAY + 1));
    Checks.noIndex(() -> x.dateFrom(1, 0));
    Checks.noIndex(() -> x.dateFrom(-1, 0));
  }

  private static void dateMoment() {
    ZoneCalendar x = new ZoneCalendar();
    x.addPlace(60);
    x.addPattern(3, 15, 1);
    x.addTurn(0, 2000, 2000, 0, 60, 2, 60);
    int turn = day(2000, 3, 26);
    // At 2:30 each day; on March 26th the clock goes from 2:00 to 3:00.
    int days = x.addSeries(0, 1440 * (turn - 1) + 150, DAYS, 1, 0);
    Checks.due(x.dateMoment(days, 0), 1440 * (turn - 1) + 90);
    Checks.due(x.dateMoment(days, 1), 1440 * turn + 60);
    Checks.due(x.dateMoment(days, 2), 1440 * (turn + 1) + 30);
    // Turns that come later count for a series that is there.
    x.addTurn(0, 2000, 2000, 0, 61, 2, 0);
    Checks.due(x.dateMoment(days, 2), 1440 * (turn + 1) + 90);
    int first = x.addSeries(0, 59, DAYS, 1, 0);
    Checks.due(x.dateMoment(first, 0), -1);
    Checks.due(x.dateMoment(first, 1), 1439);
    x.addPlace(-60);
    int end = x.addSeries(1, LAST_MOMENT, DAYS, 1, 0);
    Checks.due(x.dates(end), 1);
    Checks.due(x.dateMoment(end, 0), -1);
    Checks.noIndex(() -> x.dateMoment(end, 1));
    Checks.noIndex(() -> x.dateMoment(end, -1));
    Checks.noIndex(() -> x.dateMoment(3, 0));
    Checks.noIndex(() -> x.dateMoment(-1, 0));
  }

  private static void common() {
    ZoneCalendar x = place();
    int begin = day(2000, 1, 1);
    int second = series(x, begin, DAYS, 2, 0);
    int third = series(x, begin, DAYS, 3, 0);
    int late = series(x, begin + 3999, DAYS, 1, 0);
    x.setLast(second, begin + 12);
    x.setLast(third, begin + 12);
    Checks.due(x.common(second, third), 3);
    Checks.due(x.common(third, second), 3);
    Checks.due(x.common(second, second), 7);
    Checks.due(x.common(second, late), 0);
    x.except(third, begin + 6);
    Checks.due(x.common(second, third), 2);
    x.setLast(second, begin + 4000);
    Checks.due(x.common(late, second), 1);
    Checks.noIndex(() -> x.common(0, 3));
    Checks.noIndex(() -> x.common(3, 0));
    Checks.noIndex(() -> x.common(-1, 0));
    Checks.noIndex(() -> x.common(0, -1));
  }

  private static void widestGap() {
    ZoneCalendar x = place();
    int begin = day(2000, 1, 1);
    int days = series(x, begin, DAYS, 5, 0);
    Checks.due(x.widestGap(days), 5);
    x.except(days, begin + 20);
    Checks.due(x.widestGap(days), 10);
    x.setMost(days, 2);
    Checks.due(x.widestGap(days), 5);
    x.setMost(days, 1);
    Checks.due(x.widestGap(days), 0);
    x.except(days, begin);
    Checks.due(x.dates(days), 0);
    Checks.due(x.widestGap(days), 0);
    int leap = series(x, day(1996, 2, 29), YEARS, 1, 0);
    Checks.due(x.widestGap(leap), 1461);
    Checks.noIndex(() -> x.widestGap(2));
    Checks.noIndex(() -> x.widestGap(-1));
  }

  private static void meanGap() {
    ZoneCalendar x = place();
    int begin = day(2000, 1, 1);
    int days = series(x, begin, DAYS, 5, 0);
    Checks.due(x.meanGap(days), 5.0);
    x.setMost(days, 4);
    x.except(days, begin + 5);
    Checks.due(x.meanGap(days), 7.5);
    x.setMost(days, 2);
    Checks.due(x.dates(days), 1);
    Checks.due(x.meanGap(days), 0.0);
    int months = series(x, day(2000, 1, 1), MONTHS, 1, 0);
    x.setMost(months, 4);
    Checks.due(x.meanGap(months), 91 / 3.0);
    x.setLast(months, day(2000, 1, 1));
    Checks.due(x.meanGap(months), 0.0);
    x.except(months, day(2000, 1, 1));
    Checks.due(x.meanGap(months), 0.0);
    Checks.noIndex(() -> x.meanGap(2));
    Checks.noIndex(() -> x.meanGap(-1));
  }
}
