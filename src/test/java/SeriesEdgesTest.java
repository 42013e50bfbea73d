/** Promises 24 to 35, and 47, and part 3 of the terms: each sentence that names an edge has a test of its own. */
final class SeriesEdgesTest {
  private static final int LAST_DAY = 73048;
  private static final int LAST_MOMENT = 105190559;
  private static final int DAYS = 0;
  private static final int WEEKS = 1;
  private static final int MONTHS = 2;
  private static final int YEARS = 3;
  private static final int MONDAY = 1;
  private static final int THURSDAY = 8;
  private static final int SUNDAY = 64;
  private static final int ALL = 127;
  private static final int[] FAR_OFF = {Integer.MIN_VALUE, Integer.MAX_VALUE};
  private static final int[] NO_SERIES = {-1, 1, 5, 6, Integer.MIN_VALUE, Integer.MAX_VALUE};
  private static final int[] NO_DAYS = {-1, LAST_DAY + 1, Integer.MIN_VALUE, Integer.MAX_VALUE};

  private SeriesEdgesTest() {
  }

  static void run() {
    Checks.test("edge, 24: at most 6 series", SeriesEdgesTest::mostSeries);
    Checks.test("edge, 24: no such place", SeriesEdgesTest::withoutPlace);
    Checks.test("edge, 24: begin is 0 to 105190559", SeriesEdgesTest::begins);
    Checks.test("edge, 24: the step kind is 0 to 3", SeriesEdgesTest::kinds);
    Checks.test("edge, 24: the step is 1 to 60", SeriesEdgesTest::steps);
    Checks.test("edge, 24: weekdays are 0 to 127", SeriesEdgesTest::weekdays);
    Checks.test("edge, 24: what is named first", SeriesEdgesTest::firstNamed);
    Checks.test("edge, terms: the last DAY at first, 4000 behind or 73048", SeriesEdgesTest::lastAtFirst);
    Checks.test("edge, terms: a span of days is one day", SeriesEdgesTest::spansOfDays);
    Checks.test("edge, terms: a span of weeks goes from Monday to Sunday", SeriesEdgesTest::spansOfWeeks);
    Checks.test("edge, terms: weeks without weekdays and patterns", SeriesEdgesTest::plainWeeks);
    Checks.test("edge, terms: the day of the month of begin, if there is such", SeriesEdgesTest::plainMonths);
    Checks.test("edge, terms: spans of months over the end of a year", SeriesEdgesTest::spansOfMonths);
    Checks.test("edge, terms: the month and the day of begin, if there are such", SeriesEdgesTest::plainYears);
    Checks.test("edge, terms: spans of years", SeriesEdgesTest::spansOfYears);
    Checks.test("edge, terms: days that one of the patterns tells, or more", SeriesEdgesTest::toldDays);
    Checks.test("edge, terms: not ahead of the DAY of begin", SeriesEdgesTest::fromBegin);
    Checks.test("edge, terms: not behind the last DAY", SeriesEdgesTest::upToLast);
    Checks.test("edge, terms: days of a span behind DAY 73048 are none", SeriesEdgesTest::upToLastOfAll);
    Checks.test("edge, 25: at most 4 patterns", SeriesEdgesTest::mostPatterns);
    Checks.test("edge, 25: no such series or pattern", SeriesEdgesTest::patternRefused);
    Checks.test("edge, 26: the choice is -6 to 6", SeriesEdgesTest::choices);
    Checks.test("edge, 26: none, if there are not so many", SeriesEdgesTest::tooFewToChoose);
    Checks.test("edge, 26: the choice in the first and the last span", SeriesEdgesTest::choiceAtEnds);
    Checks.test("edge, 26: the choice of weeks behind DAY 73048", SeriesEdgesTest::choiceAtLastOfAll);
    Checks.test("edge, 27: the most is 0 to 500", SeriesEdgesTest::mosts);
    Checks.test("edge, 27: the first most, 0 for no bound", SeriesEdgesTest::mostDates);
    Checks.test("edge, 27: exceptions count for the most", SeriesEdgesTest::mostWithExceptions);
    Checks.test("edge, 28: the last DAY from that of begin on", SeriesEdgesTest::lasts);
    Checks.test("edge, 28: the last DAY no later than at first", SeriesEdgesTest::lastsBehind);
    Checks.test("edge, 29: at most 8 exceptions", SeriesEdgesTest::mostExceptions);
    Checks.test("edge, 29: exceptions that are no dates", SeriesEdgesTest::otherExceptions);
    Checks.test("edge, 29: no such series or DAY", SeriesEdgesTest::exceptRefused);
    Checks.test("edge, 30: no dates, and the most there can be", SeriesEdgesTest::countedDates);
    Checks.test("edge, 31: the first and the last date", SeriesEdgesTest::dateAtEnds);
    Checks.test("edge, 31: no such series or date", SeriesEdgesTest::dateRefused);
    Checks.test("edge, 32: from this DAY on, this one too", SeriesEdgesTest::fromThisDay);
    Checks.test("edge, 32: -1 without one", SeriesEdgesTest::fromWithout);
    Checks.test("edge, 32: no such series or DAY", SeriesEdgesTest::fromRefused);
    Checks.test("edge, 33: the minute of the day of begin", SeriesEdgesTest::minuteOfBegin);
    Checks.test("edge, 33: shown twice the first, passed the turn", SeriesEdgesTest::momentAtTurns);
    Checks.test("edge, 33: -1 without one", SeriesEdgesTest::momentWithout);
    Checks.test("edge, 33: no such series or date", SeriesEdgesTest::momentRefused);
    Checks.test("edge, 34: all, none and one DAY of both", SeriesEdgesTest::commonDays);
    Checks.test("edge, 34: no such series or other", SeriesEdgesTest::commonRefused);
    Checks.test("edge, 35: no date, one, two and more", SeriesEdgesTest::widestOfFew);
    Checks.test("edge, 35: 1 from a day to the day behind it", SeriesEdgesTest::widestOfNext);
    Checks.test("edge, 47: no date, one, two and more", SeriesEdgesTest::meanOfFew);
    Checks.test("edge, 30, 35, 47: no such series", SeriesEdgesTest::seriesRefused);
  }

  private static int day(int year, int month, int day) {
    return SlowCalendar.day(year, month, day);
  }

  private static ZoneCalendar place() {
    ZoneCalendar x = new ZoneCalendar();
    x.addPlace(0);
    return x;
  }

  /** A calendar with one series, 0, that begins on this DAY at 10:00. */
  private static ZoneCalendar series(int day, int kind, int step, int weekdays) {
    ZoneCalendar x = place();
    Checks.due(x.addSeries(0, 1440 * day + 600, kind, step, weekdays), 0);
    return x;
  }

  private static void use(ZoneCalendar x, int month, int kind, int number) {
    x.usePattern(0, x.addPattern(month, kind, number));
  }

  private static void datesAre(ZoneCalendar x, int... days) {
    Checks.due("how many dates", x.dates(0), days.length);
    firstAre(x, days);
  }

  private static void firstAre(ZoneCalendar x, int... days) {
    for (int k = 0; k < days.length; k++) {
      int date = k;
      Checks.due("date " + k, Checks.outcome(() -> x.dateAt(0, date)), days[k]);
    }
  }

  private static void lastIs(ZoneCalendar x, int count, int day) {
    Checks.due("how many dates", x.dates(0), count);
    Checks.due("the last date", Checks.outcome(() -> x.dateAt(0, count - 1)), day);
  }

  private static void mostSeries() {
    ZoneCalendar x = place();
    for (int k = 0; k < 6; k++) {
      int next = k;
      Checks.noIndex(() -> x.dates(next));
      Checks.due(x.addSeries(0, 1440 * k, DAYS, 1, 0), k);
      Checks.due(x.dateAt(k, 0), k);
    }
    Checks.noState(() -> x.addSeries(0, 0, DAYS, 1, 0));
    Checks.noIndex(() -> x.dates(6));
    Checks.due(x.dateAt(5, 0), 5);
  }

  private static void withoutPlace() {
    ZoneCalendar x = place();
    for (int none : new int[] {-1, 1, 5, 6, Integer.MIN_VALUE, Integer.MAX_VALUE}) {
      Checks.noIndex(() -> x.addSeries(none, 0, DAYS, 1, 0));
    }
    Checks.noIndex(() -> x.dates(0));
  }

  private static void begins() {
    ZoneCalendar x = place();
    for (int begin : new int[] {-1, LAST_MOMENT + 1, Integer.MIN_VALUE, Integer.MAX_VALUE}) {
      Checks.noArgument(() -> x.addSeries(0, begin, DAYS, 1, 0));
    }
    int[] begins = {0, 1439, 1440, LAST_MOMENT - 1440, LAST_MOMENT - 1439, LAST_MOMENT};
    int[] days = {0, 0, 1, LAST_DAY - 1, LAST_DAY, LAST_DAY};
    for (int k = 0; k < 6; k++) {
      Checks.due(x.addSeries(0, begins[k], DAYS, 1, 0), k);
      Checks.due(x.dateAt(k, 0), days[k]);
      Checks.due(x.dateMoment(k, 0), begins[k]);
    }
    Checks.due(x.dates(0), 4001);
    Checks.due(x.dates(3), 2);
    Checks.due(x.dates(5), 1);
  }

  private static void kinds() {
    ZoneCalendar x = place();
    for (int kind : new int[] {-1, 4, Integer.MIN_VALUE, Integer.MAX_VALUE}) {
      Checks.noArgument(() -> x.addSeries(0, 0, kind, 1, 0));
    }
    int[] second = {1, 7, 31, 365};
    for (int kind = 0; kind < 4; kind++) {
      Checks.due(x.addSeries(0, 0, kind, 1, 0), kind);
      Checks.due(x.dateAt(kind, 1), second[kind]);
    }
  }

  private static void steps() {
    ZoneCalendar x = place();
    for (int step : new int[] {0, -1, 61, Integer.MIN_VALUE, Integer.MAX_VALUE}) {
      for (int kind = 0; kind < 4; kind++) {
        int asked = kind;
        Checks.noArgument(() -> x.addSeries(0, 0, asked, step, 0));
      }
    }
    Checks.due(x.addSeries(0, 0, DAYS, 60, 0), 0);
    Checks.due(x.addSeries(0, 0, WEEKS, 60, 0), 1);
    Checks.due(x.addSeries(0, 0, MONTHS, 60, 0), 2);
    Checks.due(x.addSeries(0, 0, YEARS, 60, 0), 3);
    lastIs(x, 67, 3960);
    Checks.due(x.dates(1), 10);
    Checks.due(x.dateAt(1, 9), 3780);
    Checks.due(x.dates(2), 3);
    Checks.due(x.dateAt(2, 2), day(1910, 1, 1));
    Checks.due(x.dates(3), 1);
  }

  private static void weekdays() {
    ZoneCalendar x = place();
    for (int weekdays : new int[] {-1, 128, Integer.MIN_VALUE, Integer.MAX_VALUE}) {
      Checks.noArgument(() -> x.addSeries(0, 0, DAYS, 1, weekdays));
    }
    // DAY 0 is a Monday; each weekday alone, then all of them, told by 0 and by 127.
    for (int weekday = 0; weekday < 7; weekday++) {
      ZoneCalendar y = series(0, DAYS, 1, 1 << weekday);
      firstAre(y, weekday, weekday + 7, weekday + 14);
      ZoneCalendar z = series(0, WEEKS, 1, 1 << weekday);
      firstAre(z, weekday, weekday + 7, weekday + 14);
    }
    for (int weekdays : new int[] {0, ALL}) {
      lastIs(series(0, DAYS, 1, weekdays), 4001, 4000);
    }
    firstAre(series(0, DAYS, 1, ALL - MONDAY), 1, 2, 3, 4, 5, 6, 8);
    firstAre(series(0, DAYS, 1, ALL - SUNDAY), 0, 1, 2, 3, 4, 5, 7);
  }

  private static void firstNamed() {
    ZoneCalendar x = place();
    Checks.noIndex(() -> x.addSeries(1, -1, 4, 0, 128));
    for (int k = 0; k < 6; k++) {
      x.addSeries(0, 0, DAYS, 1, 0);
    }
    Checks.noIndex(() -> x.addSeries(1, 0, DAYS, 1, 0));
    Checks.noArgument(() -> x.addSeries(0, -1, DAYS, 1, 0));
    Checks.noArgument(() -> x.addSeries(0, 0, 4, 1, 0));
    Checks.noArgument(() -> x.addSeries(0, 0, DAYS, 0, 0));
    Checks.noArgument(() -> x.addSeries(0, 0, DAYS, 1, 128));
    Checks.noState(() -> x.addSeries(0, 0, DAYS, 1, 0));
  }

  private static void lastAtFirst() {
    int[] begins = {0, 1, LAST_DAY - 4001, LAST_DAY - 4000, LAST_DAY - 3999, LAST_DAY - 1, LAST_DAY};
    for (int begin : begins) {
      ZoneCalendar x = series(begin, DAYS, 1, 0);
      int due = Math.min(begin + 4000, LAST_DAY);
      lastIs(x, due - begin + 1, due);
      Checks.due(x.setLast(0, begin), due);
      datesAre(x, begin);
    }
  }

  private static void spansOfDays() {
    int begin = day(1999, 12, 30);
    firstAre(series(begin, DAYS, 1, 0), begin, begin + 1, begin + 2, begin + 3);
    firstAre(series(begin, DAYS, 2, 0), begin, begin + 2, begin + 4);
    lastIs(series(begin, DAYS, 50, 0), 81, begin + 4000);
    lastIs(series(begin, DAYS, 59, 0), 68, begin + 3953);
    // A day that is skipped for its weekday does not shift the spans: Thursday the 30th, each second day a Sunday.
    firstAre(series(begin, DAYS, 2, SUNDAY), begin + 10, begin + 24);
    datesAre(series(LAST_DAY - 1, DAYS, 1, 0), LAST_DAY - 1, LAST_DAY);
    datesAre(series(LAST_DAY - 1, DAYS, 2, 0), LAST_DAY - 1);
  }

  private static void spansOfWeeks() {
    // January 2nd, 2000, is a Sunday: the first week ends with it.
    int sunday = day(2000, 1, 2);
    firstAre(series(sunday, WEEKS, 1, MONDAY), sunday + 1, sunday + 8);
    firstAre(series(sunday, WEEKS, 2, MONDAY), sunday + 8, sunday + 22);
    firstAre(series(sunday, WEEKS, 2, ALL), sunday, sunday + 8, sunday + 9, sunday + 10, sunday + 11, sunday + 12,
        sunday + 13, sunday + 14, sunday + 22);
    // January 3rd, a Monday: the first week begins with it.
    int monday = day(2000, 1, 3);
    firstAre(series(monday, WEEKS, 2, MONDAY), monday, monday + 14);
    firstAre(series(monday, WEEKS, 2, SUNDAY), monday + 6, monday + 20);
    firstAre(series(monday, WEEKS, 60, MONDAY + SUNDAY), monday, monday + 6, monday + 420, monday + 426);
    // The first week of all.
    firstAre(series(0, WEEKS, 1, SUNDAY + MONDAY), 0, 6, 7, 13);
    firstAre(series(6, WEEKS, 1, SUNDAY + MONDAY), 6, 7, 13);
  }

  private static void plainWeeks() {
    for (int weekday = 0; weekday < 7; weekday++) {
      // Only those on the weekday of begin.
      ZoneCalendar x = series(700 + weekday, WEEKS, 1, 0);
      firstAre(x, 700 + weekday, 707 + weekday, 714 + weekday);
      lastIs(x, 572, 700 + weekday + 7 * 571);
    }
    // With weekdays, each day of the week on them, with patterns, each one that is told.
    firstAre(series(703, WEEKS, 1, ALL), 703, 704, 705, 706, 707);
    ZoneCalendar told = series(day(2000, 1, 5), WEEKS, 1, 0);
    use(told, 0, 0, 8);
    firstAre(told, day(2000, 1, 8), day(2000, 2, 8), day(2000, 3, 8));
    // With both, those that are both: the 8th on a Saturday.
    ZoneCalendar both = series(day(2000, 1, 5), WEEKS, 1, 32);
    use(both, 0, 0, 8);
    firstAre(both, day(2000, 1, 8), day(2000, 4, 8), day(2000, 7, 8));
  }

  private static void plainMonths() {
    firstAre(series(day(2000, 1, 1), MONTHS, 1, 0), day(2000, 1, 1), day(2000, 2, 1), day(2000, 3, 1));
    firstAre(series(day(2000, 1, 28), MONTHS, 1, 0), day(2000, 1, 28), day(2000, 2, 28), day(2000, 3, 28));
    firstAre(series(day(2000, 12, 29), MONTHS, 1, 0), day(2000, 12, 29), day(2001, 1, 29), day(2001, 3, 29));
    firstAre(series(day(2000, 1, 29), MONTHS, 1, 0), day(2000, 1, 29), day(2000, 2, 29), day(2000, 3, 29));
    firstAre(series(day(2000, 1, 30), MONTHS, 1, 0), day(2000, 1, 30), day(2000, 3, 30), day(2000, 4, 30));
    firstAre(series(day(2000, 1, 31), MONTHS, 1, 0), day(2000, 1, 31), day(2000, 3, 31), day(2000, 5, 31),
        day(2000, 7, 31), day(2000, 8, 31), day(2000, 10, 31), day(2000, 12, 31), day(2001, 1, 31));
    // Every third month from January 31st on: April has none.
    firstAre(series(day(2000, 1, 31), MONTHS, 3, 0), day(2000, 1, 31), day(2000, 7, 31), day(2000, 10, 31));
    // A step of twelve from February 29th on.
    datesAre(series(day(2000, 2, 29), MONTHS, 12, 0), day(2000, 2, 29), day(2004, 2, 29), day(2008, 2, 29));
    // On weekdays of the series: the 1st on a Monday.
    firstAre(series(day(2000, 1, 1), MONTHS, 1, MONDAY), day(2000, 5, 1), day(2001, 1, 1), day(2001, 10, 1));
  }

  private static void spansOfMonths() {
    firstAre(series(day(1999, 11, 30), MONTHS, 1, 0), day(1999, 11, 30), day(1999, 12, 30), day(2000, 1, 30),
        day(2000, 3, 30));
    firstAre(series(day(1999, 11, 1), MONTHS, 2, 0), day(1999, 11, 1), day(2000, 1, 1), day(2000, 3, 1));
    firstAre(series(day(1999, 12, 31), MONTHS, 13, 0), day(1999, 12, 31), day(2001, 1, 31), day(2003, 3, 31));
    datesAre(series(day(2000, 1, 15), MONTHS, 60, 0), day(2000, 1, 15), day(2005, 1, 15), day(2010, 1, 15));
    datesAre(series(day(2099, 10, 31), MONTHS, 1, 0), day(2099, 10, 31), day(2099, 12, 31));
    datesAre(series(day(2099, 12, 1), MONTHS, 1, 0), day(2099, 12, 1));
    // The first span is all of the month of begin, but for what is ahead of begin.
    ZoneCalendar x = series(day(2000, 1, 31), MONTHS, 2, 0);
    use(x, 0, 0, 1);
    use(x, 0, 0, 31);
    firstAre(x, day(2000, 1, 31), day(2000, 3, 1), day(2000, 3, 31), day(2000, 5, 1));
  }

  private static void plainYears() {
    datesAre(series(day(2000, 2, 29), YEARS, 1, 0), day(2000, 2, 29), day(2004, 2, 29), day(2008, 2, 29));
    datesAre(series(day(2000, 2, 29), YEARS, 3, 0), day(2000, 2, 29));
    datesAre(series(day(2000, 2, 29), YEARS, 4, 0), day(2000, 2, 29), day(2004, 2, 29), day(2008, 2, 29));
    firstAre(series(day(2000, 2, 28), YEARS, 1, 0), day(2000, 2, 28), day(2001, 2, 28), day(2002, 2, 28));
    firstAre(series(day(1999, 12, 31), YEARS, 1, 0), day(1999, 12, 31), day(2000, 12, 31), day(2001, 12, 31));
    firstAre(series(day(2000, 1, 1), YEARS, 1, 0), day(2000, 1, 1), day(2001, 1, 1), day(2002, 1, 1));
    // On weekdays of the series: January 1st on a Monday.
    datesAre(series(day(2000, 1, 1), YEARS, 1, MONDAY), day(2001, 1, 1), day(2007, 1, 1));
  }

  private static void spansOfYears() {
    // 4000 days are 10 years and 347 or 348 days.
    datesAre(series(day(2000, 1, 1), YEARS, 10, 0), day(2000, 1, 1), day(2010, 1, 1));
    datesAre(series(day(2000, 1, 1), YEARS, 11, 0), day(2000, 1, 1));
    lastIs(series(0, YEARS, 1, 0), 11, day(1910, 1, 1));
    datesAre(series(day(2098, 12, 31), YEARS, 1, 0), day(2098, 12, 31), LAST_DAY);
    datesAre(series(day(2099, 1, 1), YEARS, 1, 0), day(2099, 1, 1));
    // The span is all of the year: on December 31st that is told in January it has one day ahead of begin.
    ZoneCalendar x = series(day(2000, 12, 31), YEARS, 2, 0);
    use(x, 1, 0, 1);
    use(x, 12, 0, 31);
    firstAre(x, day(2000, 12, 31), day(2002, 1, 1), day(2002, 12, 31), day(2004, 1, 1));
    // Without a month all days of the year that are told.
    ZoneCalendar y = series(day(2000, 12, 1), YEARS, 1, 0);
    use(y, 0, 0, 1);
    firstAre(y, day(2000, 12, 1), day(2001, 1, 1), day(2001, 2, 1), day(2001, 3, 1));
  }

  private static void toldDays() {
    ZoneCalendar x = series(day(2000, 1, 1), MONTHS, 1, 0);
    use(x, 0, 0, 10);
    use(x, 0, 2, 2);
    // January 10th, 2000, is the second Monday: told twice, it is one date, and counts once for the choice.
    firstAre(x, day(2000, 1, 10), day(2000, 2, 10), day(2000, 2, 14), day(2000, 3, 10), day(2000, 3, 13));
    x.setChoice(0, 2);
    firstAre(x, day(2000, 2, 14), day(2000, 3, 13));
    // Told days alone, though begin itself is none of them.
    ZoneCalendar y = series(day(2000, 4, 23), YEARS, 1, 0);
    use(y, 0, 16, 101);
    firstAre(y, day(2000, 4, 24), day(2001, 4, 16), day(2002, 4, 1));
    // Of days only those of the spans: each second day from January 1st on, and the 2nd of a month.
    ZoneCalendar z = series(day(2000, 1, 1), DAYS, 2, 0);
    use(z, 0, 0, 2);
    firstAre(z, day(2000, 2, 2), day(2000, 4, 2));
    // A pattern that tells no day leaves none, though there were some without patterns.
    ZoneCalendar none = series(day(2000, 1, 1), WEEKS, 1, 0);
    use(none, 4, 0, 31);
    datesAre(none);
  }

  private static void fromBegin() {
    ZoneCalendar x = series(day(2000, 1, 10), MONTHS, 1, 0);
    use(x, 0, 0, 9);
    firstAre(x, day(2000, 2, 9));
    ZoneCalendar y = series(day(2000, 1, 10), MONTHS, 1, 0);
    use(y, 0, 0, 10);
    firstAre(y, day(2000, 1, 10), day(2000, 2, 10));
    // The DAY of begin counts as a whole, whatever its minute.
    ZoneCalendar z = place();
    z.addSeries(0, 1440 * day(2000, 1, 10) + 1439, DAYS, 1, 0);
    firstAre(z, day(2000, 1, 10), day(2000, 1, 11));
  }

  private static void upToLast() {
    // From a Monday on a Thursday is 4000 days behind, 571 weeks and 3 days.
    int monday = day(2000, 1, 3);
    lastIs(series(monday, WEEKS, 1, THURSDAY), 572, monday + 4000);
    lastIs(series(monday, WEEKS, 1, 2 * THURSDAY), 571, monday + 3994);
    ZoneCalendar x = series(monday, DAYS, 1, 0);
    x.setLast(0, monday + 3999);
    lastIs(x, 4000, monday + 3999);
    x.setLast(0, monday);
    datesAre(x, monday);
  }

  private static void upToLastOfAll() {
    // DAY 73048 is a Thursday.
    datesAre(series(LAST_DAY - 3, WEEKS, 1, ALL), LAST_DAY - 3, LAST_DAY - 2, LAST_DAY - 1, LAST_DAY);
    datesAre(series(LAST_DAY, WEEKS, 1, ALL), LAST_DAY);
    datesAre(series(LAST_DAY, WEEKS, 1, 2 * THURSDAY));
    datesAre(series(LAST_DAY, DAYS, 1, 0), LAST_DAY);
    datesAre(series(LAST_DAY, MONTHS, 1, 0), LAST_DAY);
    datesAre(series(LAST_DAY, YEARS, 60, 0), LAST_DAY);
  }

  private static void mostPatterns() {
    ZoneCalendar x = series(day(2000, 1, 1), MONTHS, 1, 0);
    for (int k = 0; k < 5; k++) {
      x.addPattern(0, 0, 5 + k);
    }
    // The same one once more counts as another one.
    Checks.due(x.usePattern(0, 0), 1);
    Checks.due(x.usePattern(0, 0), 2);
    Checks.due(x.usePattern(0, 3), 3);
    Checks.due(x.usePattern(0, 1), 4);
    Checks.noState(() -> x.usePattern(0, 2));
    Checks.noState(() -> x.usePattern(0, 0));
    firstAre(x, day(2000, 1, 5), day(2000, 1, 6), day(2000, 1, 8), day(2000, 2, 5));
    // Of a full series too it is named first that there is no such pattern.
    Checks.noIndex(() -> x.usePattern(0, 5));
    // Each series has its own.
    x.addSeries(0, 0, MONTHS, 1, 0);
    Checks.due(x.usePattern(1, 4), 1);
  }

  private static void patternRefused() {
    ZoneCalendar x = series(0, DAYS, 1, 0);
    Checks.noIndex(() -> x.usePattern(0, 0));
    x.addPattern(0, 0, 1);
    for (int none : NO_SERIES) {
      Checks.noIndex(() -> x.usePattern(none, 0));
      Checks.noIndex(() -> x.usePattern(none, 1));
    }
    for (int none : new int[] {-1, 1, 23, 24, Integer.MIN_VALUE, Integer.MAX_VALUE}) {
      Checks.noIndex(() -> x.usePattern(0, none));
    }
    Checks.due(x.dates(0), 4001);
    Checks.due(x.usePattern(0, 0), 1);
  }

  private static void choices() {
    // The days but Sunday: six of each week, from Monday on.
    int monday = day(2000, 1, 3);
    ZoneCalendar x = series(monday, WEEKS, 1, ALL - SUNDAY);
    int before = 0;
    for (int choice : new int[] {1, 2, 3, 4, 5, 6}) {
      Checks.due(x.setChoice(0, choice), before);
      firstAre(x, monday + choice - 1, monday + choice + 6);
      before = choice;
    }
    for (int choice : new int[] {-1, -2, -3, -4, -5, -6}) {
      Checks.due(x.setChoice(0, choice), before);
      firstAre(x, monday + 6 + choice, monday + 13 + choice);
      before = choice;
    }
    for (int choice : new int[] {-7, 7, Integer.MIN_VALUE, Integer.MAX_VALUE}) {
      Checks.noArgument(() -> x.setChoice(0, choice));
      for (int none : NO_SERIES) {
        Checks.noIndex(() -> x.setChoice(none, choice));
        Checks.noIndex(() -> x.setChoice(none, 0));
      }
    }
    Checks.due(x.setChoice(0, 0), -6);
    firstAre(x, monday, monday + 1, monday + 2);
  }

  private static void tooFewToChoose() {
    int monday = day(2000, 1, 3);
    ZoneCalendar five = series(monday, WEEKS, 1, 31);
    five.setChoice(0, 5);
    firstAre(five, monday + 4, monday + 11);
    five.setChoice(0, -5);
    firstAre(five, monday, monday + 7);
    five.setChoice(0, 6);
    datesAre(five);
    five.setChoice(0, -6);
    datesAre(five);
    // Only in months that have so many.
    ZoneCalendar sundays = series(day(2000, 1, 1), MONTHS, 1, 0);
    for (int number = 2; number <= 5; number++) {
      use(sundays, 0, 8, number);
    }
    sundays.setChoice(0, 4);
    firstAre(sundays, day(2000, 1, 30), day(2000, 4, 30), day(2000, 7, 30));
    sundays.setChoice(0, -4);
    firstAre(sundays, day(2000, 1, 9), day(2000, 4, 9), day(2000, 7, 9));
    ZoneCalendar days = series(monday, DAYS, 1, 0);
    days.setChoice(0, 1);
    Checks.due(days.dates(0), 4001);
    days.setChoice(0, -1);
    Checks.due(days.dates(0), 4001);
    days.setChoice(0, 2);
    datesAre(days);
    days.setChoice(0, -2);
    datesAre(days);
  }

  private static void choiceAtEnds() {
    // Begin is a Wednesday: the first and the second day of its week lie ahead of it, the third one does not.
    int wednesday = day(2000, 1, 5);
    ZoneCalendar x = series(wednesday, WEEKS, 1, ALL);
    x.setChoice(0, 2);
    firstAre(x, wednesday + 6, wednesday + 13);
    x.setChoice(0, 3);
    firstAre(x, wednesday, wednesday + 7);
    x.setChoice(0, -5);
    firstAre(x, wednesday, wednesday + 7);
    x.setChoice(0, -6);
    firstAre(x, wednesday + 6, wednesday + 13);
    // The last DAY is a Wednesday: so too with the days behind it.
    x.setLast(0, wednesday + 14);
    x.setChoice(0, 3);
    datesAre(x, wednesday, wednesday + 7, wednesday + 14);
    x.setChoice(0, 4);
    datesAre(x, wednesday + 1, wednesday + 8);
    x.setChoice(0, -5);
    datesAre(x, wednesday, wednesday + 7, wednesday + 14);
    x.setChoice(0, -4);
    datesAre(x, wednesday + 1, wednesday + 8);
  }

  private static void choiceAtLastOfAll() {
    // DAY 73048 is a Thursday: of its week there are four days.
    ZoneCalendar x = series(LAST_DAY - 10, WEEKS, 1, ALL);
    x.setChoice(0, 4);
    datesAre(x, LAST_DAY - 7, LAST_DAY);
    x.setChoice(0, 5);
    datesAre(x, LAST_DAY - 6);
    x.setChoice(0, -1);
    datesAre(x, LAST_DAY - 4, LAST_DAY);
    x.setChoice(0, -4);
    datesAre(x, LAST_DAY - 7, LAST_DAY - 3);
    x.setChoice(0, -5);
    datesAre(x, LAST_DAY - 8);
  }

  private static void mosts() {
    ZoneCalendar x = series(0, DAYS, 1, 0);
    for (int most : new int[] {-1, 501, Integer.MIN_VALUE, Integer.MAX_VALUE}) {
      Checks.noArgument(() -> x.setMost(0, most));
      for (int none : NO_SERIES) {
        Checks.noIndex(() -> x.setMost(none, most));
        Checks.noIndex(() -> x.setMost(none, 0));
      }
    }
    Checks.due(x.setMost(0, 500), 0);
    lastIs(x, 500, 499);
    Checks.due(x.setMost(0, 1), 500);
    lastIs(x, 1, 0);
    Checks.due(x.setMost(0, 0), 1);
    lastIs(x, 4001, 4000);
    Checks.due(x.setMost(0, 0), 0);
  }

  private static void mostDates() {
    int begin = day(2000, 1, 1);
    ZoneCalendar x = series(begin, DAYS, 1, 0);
    x.setLast(0, begin + 3);
    // One less than there are, just so many, and one more.
    x.setMost(0, 3);
    lastIs(x, 3, begin + 2);
    x.setMost(0, 4);
    lastIs(x, 4, begin + 3);
    x.setMost(0, 5);
    lastIs(x, 4, begin + 3);
    // They end within a span; days ahead of begin and days that are not chosen do not count for them.
    ZoneCalendar y = series(day(2000, 1, 6), WEEKS, 1, ALL);
    y.setMost(0, 6);
    lastIs(y, 6, day(2000, 1, 11));
    y.setChoice(0, 1);
    lastIs(y, 6, day(2000, 2, 14));
  }

  private static void mostWithExceptions() {
    int begin = day(2000, 1, 1);
    ZoneCalendar x = series(begin, DAYS, 1, 0);
    x.setMost(0, 3);
    x.except(0, begin + 1);
    datesAre(x, begin, begin + 2);
    // An exception that is no date any more, for it lies behind the first three, takes none of them.
    x.except(0, begin + 3);
    datesAre(x, begin, begin + 2);
    x.setMost(0, 4);
    datesAre(x, begin, begin + 2);
    x.setMost(0, 5);
    datesAre(x, begin, begin + 2, begin + 4);
    x.setMost(0, 1);
    x.except(0, begin);
    datesAre(x);
  }

  private static void lasts() {
    int begin = day(2000, 1, 1);
    ZoneCalendar x = series(begin, DAYS, 1, 0);
    Checks.noArgument(() -> x.setLast(0, begin - 1));
    Checks.noArgument(() -> x.setLast(0, 0));
    Checks.noArgument(() -> x.setLast(0, -1));
    for (int far : FAR_OFF) {
      Checks.noArgument(() -> x.setLast(0, far));
    }
    for (int none : NO_SERIES) {
      Checks.noIndex(() -> x.setLast(none, begin));
      Checks.noIndex(() -> x.setLast(none, begin - 1));
    }
    Checks.due(x.setLast(0, begin), begin + 4000);
    datesAre(x, begin);
    // It can be set later again.
    Checks.due(x.setLast(0, begin + 1), begin);
    datesAre(x, begin, begin + 1);
    ZoneCalendar first = series(0, DAYS, 1, 0);
    Checks.noArgument(() -> first.setLast(0, -1));
    Checks.due(first.setLast(0, 0), 4000);
    // Without dates from begin on up to it.
    ZoneCalendar none = series(day(2000, 1, 31), MONTHS, 1, MONDAY);
    none.setLast(0, day(2000, 1, 31));
    datesAre(none, day(2000, 1, 31));
    none.except(0, day(2000, 1, 31));
    datesAre(none);
  }

  private static void lastsBehind() {
    int[] begins = {0, LAST_DAY - 4001, LAST_DAY - 4000, LAST_DAY - 3999, LAST_DAY};
    for (int begin : begins) {
      int latest = Math.min(begin + 4000, LAST_DAY);
      ZoneCalendar x = series(begin, DAYS, 1, 0);
      Checks.noArgument(() -> x.setLast(0, latest + 1));
      Checks.due(x.setLast(0, latest), latest);
      Checks.due(x.setLast(0, begin), latest);
      // Once it was set ahead, it is still the one of at first that binds.
      Checks.noArgument(() -> x.setLast(0, latest + 1));
      Checks.due(x.setLast(0, latest), begin);
      Checks.due(x.dates(0), latest - begin + 1);
    }
  }

  private static void mostExceptions() {
    int begin = day(2000, 1, 1);
    ZoneCalendar x = series(begin, DAYS, 1, 0);
    x.setLast(0, begin + 9);
    for (int k = 0; k < 8; k++) {
      Checks.due(x.except(0, begin + k), k + 1);
      Checks.due(x.except(0, begin + k), k + 1);
      Checks.due(x.dates(0), 9 - k);
    }
    Checks.noState(() -> x.except(0, begin + 8));
    datesAre(x, begin + 8, begin + 9);
    // One that there is, is taken though there are 8.
    Checks.due(x.except(0, begin), 8);
    Checks.due(x.except(0, begin + 7), 8);
    // No such DAY is named first.
    Checks.noIndex(() -> x.except(0, -1));
    Checks.noIndex(() -> x.except(0, LAST_DAY + 1));
    datesAre(x, begin + 8, begin + 9);
    // Each series has its own.
    x.addSeries(0, 1440 * begin, DAYS, 1, 0);
    Checks.due(x.dates(1), 4001);
    Checks.due(x.except(1, begin), 1);
  }

  private static void otherExceptions() {
    int begin = day(2000, 1, 1);
    ZoneCalendar x = series(begin, DAYS, 2, 0);
    x.setLast(0, begin + 4);
    // The first and the last DAY, one ahead of begin, between dates, and behind the last DAY of the series.
    Checks.due(x.except(0, 0), 1);
    Checks.due(x.except(0, LAST_DAY), 2);
    Checks.due(x.except(0, begin - 1), 3);
    Checks.due(x.except(0, begin + 1), 4);
    Checks.due(x.except(0, begin + 6), 5);
    datesAre(x, begin, begin + 2, begin + 4);
    x.setLast(0, begin + 8);
    datesAre(x, begin, begin + 2, begin + 4, begin + 8);
    // DAY 0 is an exception like any other.
    ZoneCalendar first = series(0, DAYS, 1, 0);
    Checks.due(first.dateAt(0, 0), 0);
    Checks.due(first.except(0, 0), 1);
    Checks.due(first.dateAt(0, 0), 1);
    Checks.due(first.dates(0), 4000);
    ZoneCalendar last = series(LAST_DAY, DAYS, 1, 0);
    Checks.due(last.except(0, LAST_DAY), 1);
    datesAre(last);
  }

  private static void exceptRefused() {
    ZoneCalendar x = series(0, DAYS, 1, 0);
    for (int none : NO_DAYS) {
      Checks.noIndex(() -> x.except(0, none));
    }
    for (int none : NO_SERIES) {
      Checks.noIndex(() -> x.except(none, 0));
      Checks.noIndex(() -> x.except(none, -1));
    }
    Checks.due(x.dates(0), 4001);
    Checks.due(x.except(0, LAST_DAY), 1);
  }

  private static void countedDates() {
    Checks.due(series(0, DAYS, 1, 0).dates(0), 4001);
    Checks.due(series(LAST_DAY, DAYS, 1, 0).dates(0), 1);
    Checks.due(series(LAST_DAY, DAYS, 1, MONDAY).dates(0), 0);
    // The 1sts and 31sts from 1900 on up to DAY 4000, December 14th, 1910.
    ZoneCalendar x = series(0, YEARS, 1, 0);
    use(x, 0, 0, 1);
    use(x, 0, 0, 31);
    Checks.due(x.dates(0), 132 + 76);
    Checks.due(series(0, WEEKS, 1, ALL).dates(0), 4001);
  }

  private static void dateAtEnds() {
    ZoneCalendar x = series(0, DAYS, 1, 0);
    Checks.due(x.dateAt(0, 0), 0);
    Checks.due(x.dateAt(0, 4000), 4000);
    Checks.noIndex(() -> x.dateAt(0, 4001));
    // Numbered from 0 behind the taking out of the exceptions.
    x.except(0, 0);
    Checks.due(x.dateAt(0, 0), 1);
    Checks.due(x.dateAt(0, 3999), 4000);
    Checks.noIndex(() -> x.dateAt(0, 4000));
    x.setMost(0, 2);
    Checks.due(x.dateAt(0, 0), 1);
    Checks.noIndex(() -> x.dateAt(0, 1));
    x.except(0, 1);
    Checks.noIndex(() -> x.dateAt(0, 0));
  }

  private static void dateRefused() {
    ZoneCalendar x = series(0, DAYS, 1, 0);
    x.setLast(0, 9);
    for (int none : new int[] {-1, 10, 4001, 5000, Integer.MIN_VALUE, Integer.MAX_VALUE}) {
      Checks.noIndex(() -> x.dateAt(0, none));
    }
    for (int none : NO_SERIES) {
      Checks.noIndex(() -> x.dateAt(none, 0));
      Checks.noIndex(() -> x.dateAt(none, -1));
    }
  }

  private static void fromThisDay() {
    int begin = day(2000, 1, 1);
    ZoneCalendar x = series(begin, DAYS, 10, 0);
    x.setMost(0, 3);
    Checks.due(x.dateFrom(0, 0), 0);
    Checks.due(x.dateFrom(0, begin), 0);
    Checks.due(x.dateFrom(0, begin + 1), 1);
    Checks.due(x.dateFrom(0, begin + 10), 1);
    Checks.due(x.dateFrom(0, begin + 11), 2);
    Checks.due(x.dateFrom(0, begin + 20), 2);
    // From an exception on the one behind it.
    x.except(0, begin + 10);
    Checks.due(x.dateFrom(0, begin + 10), 1);
    Checks.due(x.dateAt(0, 1), begin + 20);
    ZoneCalendar first = series(0, DAYS, 1, 0);
    Checks.due(first.dateFrom(0, 0), 0);
    Checks.due(first.dateFrom(0, 4000), 4000);
    Checks.due(series(LAST_DAY, DAYS, 1, 0).dateFrom(0, LAST_DAY), 0);
  }

  private static void fromWithout() {
    ZoneCalendar x = series(0, DAYS, 1, 0);
    Checks.due(x.dateFrom(0, 4001), -1);
    Checks.due(x.dateFrom(0, LAST_DAY), -1);
    x.except(0, 4000);
    Checks.due(x.dateFrom(0, 3999), 3999);
    Checks.due(x.dateFrom(0, 4000), -1);
    x.setChoice(0, 2);
    Checks.due(x.dateFrom(0, 0), -1);
  }

  private static void fromRefused() {
    ZoneCalendar x = series(0, DAYS, 1, 0);
    for (int none : NO_DAYS) {
      Checks.noIndex(() -> x.dateFrom(0, none));
    }
    for (int none : NO_SERIES) {
      Checks.noIndex(() -> x.dateFrom(none, 0));
      Checks.noIndex(() -> x.dateFrom(none, -1));
    }
  }

  private static void minuteOfBegin() {
    for (int minute : new int[] {0, 1, 600, 1439}) {
      ZoneCalendar x = new ZoneCalendar();
      x.addPlace(-300);
      x.addSeries(0, 1440 * 100 + minute, DAYS, 1, 0);
      Checks.due(x.dateMoment(0, 0), 1440 * 100 + minute + 300);
      Checks.due(x.dateMoment(0, 4000), 1440 * 4100 + minute + 300);
    }
  }

  private static void momentAtTurns() {
    // On July 1st, 2000, the clock goes from 2:00 to 3:00, on July 3rd from 3:00 to 2:00; the series is at 2:30.
    ZoneCalendar x = new ZoneCalendar();
    x.addPlace(0);
    x.addPattern(7, 0, 1);
    x.addPattern(7, 0, 3);
    int first = day(2000, 7, 1);
    x.addSeries(0, 1440 * first + 150, DAYS, 1, 0);
    x.addSeries(0, 1440 * first + 120, DAYS, 1, 0);
    x.addSeries(0, 1440 * first + 180, DAYS, 1, 0);
    Checks.due(x.dateMoment(0, 0), 1440 * first + 150);
    x.addTurn(0, 2000, 2000, 0, 120, 2, 60);
    x.addTurn(0, 2000, 2000, 1, 120, 2, 0);
    int[] half = {120, 1440 + 90, 2880 + 90, 4320 + 150};
    int[] two = {120, 1440 + 60, 2880 + 60, 4320 + 120};
    int[] three = {120, 1440 + 120, 2880 + 180, 4320 + 180};
    for (int k = 0; k < 4; k++) {
      Checks.due(x.dateMoment(0, k), 1440 * first + half[k]);
      Checks.due(x.dateMoment(1, k), 1440 * first + two[k]);
      Checks.due(x.dateMoment(2, k), 1440 * first + three[k]);
    }
  }

  private static void momentWithout() {
    for (int base : new int[] {1, 60, 840}) {
      ZoneCalendar x = new ZoneCalendar();
      x.addPlace(base);
      x.addSeries(0, base - 1, DAYS, 1, 0);
      x.addSeries(0, base, DAYS, 1, 0);
      Checks.due(x.dateMoment(0, 0), -1);
      Checks.due(x.dateMoment(0, 1), 1439);
      Checks.due(x.dateMoment(1, 0), 0);
      ZoneCalendar y = new ZoneCalendar();
      y.addPlace(-base);
      y.addSeries(0, LAST_MOMENT - base, DAYS, 1, 0);
      y.addSeries(0, LAST_MOMENT - base + 1, DAYS, 1, 0);
      Checks.due(y.dateMoment(0, 0), LAST_MOMENT);
      Checks.due(y.dateMoment(1, 0), -1);
    }
    ZoneCalendar z = place();
    z.addSeries(0, LAST_MOMENT, DAYS, 1, 0);
    Checks.due(z.dateMoment(0, 0), LAST_MOMENT);
  }

  private static void momentRefused() {
    ZoneCalendar x = series(0, DAYS, 1, 0);
    x.setMost(0, 10);
    Checks.due(x.dateMoment(0, 9), 1440 * 9 + 600);
    for (int none : new int[] {-1, 10, 4001, 5000, Integer.MIN_VALUE, Integer.MAX_VALUE}) {
      Checks.noIndex(() -> x.dateMoment(0, none));
    }
    for (int none : NO_SERIES) {
      Checks.noIndex(() -> x.dateMoment(none, 0));
      Checks.noIndex(() -> x.dateMoment(none, -1));
    }
    x.setChoice(0, 2);
    Checks.noIndex(() -> x.dateMoment(0, 0));
  }

  private static void commonDays() {
    int begin = day(2000, 1, 1);
    ZoneCalendar x = series(begin, DAYS, 1, 0);
    x.addSeries(0, 1440 * (begin + 4000), DAYS, 1, 0);
    x.addSeries(0, 1440 * (begin - 4000) + 5, DAYS, 1, 0);
    x.addSeries(0, 1440 * (begin + 1), DAYS, 2, 0);
    x.addSeries(0, 1440 * begin, DAYS, 2, 0);
    x.addSeries(0, 1440 * begin, DAYS, 1, 0);
    x.setChoice(5, 2);
    Checks.due(x.common(0, 0), 4001);
    // The last one of the one is the first one of the other.
    Checks.due(x.common(0, 1), 1);
    Checks.due(x.common(1, 0), 1);
    Checks.due(x.common(0, 2), 1);
    Checks.due(x.common(2, 0), 1);
    Checks.due(x.common(1, 2), 0);
    Checks.due(x.common(3, 4), 0);
    Checks.due(x.common(4, 0), 2001);
    Checks.due(x.common(0, 3), 2000);
    // One without dates.
    Checks.due(x.common(0, 5), 0);
    Checks.due(x.common(5, 0), 0);
    Checks.due(x.common(5, 5), 0);
    // DAY 0 and DAY 73048 are DAYS like any other.
    ZoneCalendar ends = series(0, DAYS, 1, 0);
    ends.addSeries(0, 0, DAYS, 1, 0);
    ends.setChoice(1, 2);
    ends.addSeries(0, 0, DAYS, 2, 0);
    ends.addSeries(0, LAST_MOMENT, DAYS, 1, 0);
    ends.addSeries(0, LAST_MOMENT, DAYS, 1, 1);
    ends.setMost(0, 1);
    Checks.due(ends.common(0, 1), 0);
    Checks.due(ends.common(1, 0), 0);
    Checks.due(ends.common(0, 2), 1);
    Checks.due(ends.common(0, 3), 0);
    Checks.due(ends.common(3, 3), 1);
    Checks.due(ends.common(3, 4), 0);
    Checks.due(ends.common(4, 0), 0);
  }

  private static void commonRefused() {
    ZoneCalendar x = series(0, DAYS, 1, 0);
    for (int none : NO_SERIES) {
      Checks.noIndex(() -> x.common(none, 0));
      Checks.noIndex(() -> x.common(0, none));
      Checks.noIndex(() -> x.common(none, none));
    }
  }

  private static void widestOfFew() {
    int begin = day(2000, 1, 1);
    ZoneCalendar x = series(begin, MONTHS, 1, 0);
    x.setMost(0, 3);
    Checks.due(x.widestGap(0), 31);
    x.setMost(0, 2);
    Checks.due(x.widestGap(0), 31);
    x.except(0, begin);
    Checks.due(x.dates(0), 1);
    Checks.due(x.widestGap(0), 0);
    x.except(0, begin + 31);
    Checks.due(x.dates(0), 0);
    Checks.due(x.widestGap(0), 0);
    // The widest one may be the first, the last, or one over exceptions.
    x.setMost(0, 4);
    Checks.due(x.widestGap(0), 31);
    x.setMost(0, 0);
    x.except(0, day(2010, 11, 1));
    x.setLast(0, day(2010, 12, 1));
    Checks.due(x.dates(0), 129);
    Checks.due(x.widestGap(0), 61);
    ZoneCalendar first = series(begin, DAYS, 3, 0);
    first.except(0, begin + 3);
    Checks.due(first.widestGap(0), 6);
  }

  private static void widestOfNext() {
    ZoneCalendar x = series(0, DAYS, 1, 0);
    Checks.due(x.widestGap(0), 1);
    x.except(0, 1);
    Checks.due(x.widestGap(0), 2);
    // The widest there can be: from the DAY of begin to the last DAY.
    ZoneCalendar y = series(day(2000, 1, 3), DAYS, 50, 0);
    Checks.due(y.widestGap(0), 50);
    ZoneCalendar z = series(day(2000, 2, 29), YEARS, 8, 0);
    Checks.due(z.dates(0), 2);
    Checks.due(z.widestGap(0), 2922);
  }

  private static void meanOfFew() {
    int begin = day(2000, 1, 1);
    ZoneCalendar x = series(begin, MONTHS, 1, 0);
    x.setMost(0, 3);
    Checks.due(x.meanGap(0), 30.0);
    x.setMost(0, 4);
    Checks.due(x.meanGap(0), 91 / 3.0);
    x.setMost(0, 2);
    Checks.due(x.meanGap(0), 31.0);
    x.except(0, begin);
    Checks.due(x.meanGap(0), 0.0);
    x.except(0, begin + 31);
    Checks.due(x.meanGap(0), 0.0);
    ZoneCalendar y = series(0, DAYS, 1, 0);
    Checks.due(y.meanGap(0), 1.0);
    y.except(0, 1);
    Checks.due(y.meanGap(0), 4000 / 3999.0);
    y.setMost(0, 4);
    Checks.due(y.meanGap(0), 1.5);
  }

  private static void seriesRefused() {
    ZoneCalendar x = series(0, DAYS, 1, 0);
    for (int none : NO_SERIES) {
      Checks.noIndex(() -> x.dates(none));
      Checks.noIndex(() -> x.widestGap(none));
      Checks.noIndex(() -> x.meanGap(none));
    }
  }
}
