/** A calendar of places whose clocks differ and are put forward and back by rules. */
public final class ZoneCalendar {
  private static final int FIRST_YEAR = 1900;
  private static final int LAST_YEAR = 2099;
  private static final int LAST_DAY = 73048;
  private static final int LAST_MOMENT = 105190559;
  private static final int DAY_MINUTES = 1440;
  private static final int EASTER_KIND = 16;

  private final Pattern[] patterns;
  private int patternCount;
  private final Place[] places;
  private int placeCount;
  private final Series[] seriesRow;
  private int seriesCount;
  private final DayRow fitting;
  private final Work work;

  public ZoneCalendar() {
    patterns = new Pattern[24];
    patternCount = 0;
    places = new Place[6];
    placeCount = 0;
    seriesRow = new Series[6];
    seriesCount = 0;
    fitting = new DayRow(Series.ROW_DAYS);
    work = new Work();
  }

  // ---- days

  public int dayOf(int year, int month, int day) throws IllegalArgumentException {
    needYear(year);
    if (month < 1 || month > 12) {
      throw new IllegalArgumentException("no such month");
    }
    int index = Days.januaryOf(year) + month - 1;
    if (day < 1 || day > Days.monthLength(index)) {
      throw new IllegalArgumentException("the month has no such day");
    }
    return Days.monthBegin(index) + day - 1;
  }

  public int yearOf(int day) throws IndexOutOfBoundsException {
    needDay(day);
    return Days.yearWith(day);
  }

  public int monthOf(int day) throws IndexOutOfBoundsException {
    needDay(day);
    return Days.monthWith(day) % 12 + 1;
  }

  public int dayOfMonth(int day) throws IndexOutOfBoundsException {
    needDay(day);
    return Days.numberInMonth(day);
  }

  public int weekdayOf(int day) throws IndexOutOfBoundsException {
    needDay(day);
    return Days.weekday(day);
  }

  public int weekOf(int day) throws IndexOutOfBoundsException {
    needDay(day);
    int thursday = Days.thursdayNear(day);
    return (thursday - Days.monthBegin(Days.januaryOf(Days.yearWith(thursday)))) / 7 + 1;
  }

  public int yearOfWeek(int day) throws IndexOutOfBoundsException {
    needDay(day);
    return Days.yearWith(Days.thursdayNear(day));
  }

  public int easterOf(int year) throws IllegalArgumentException {
    needYear(year);
    return Days.easter(year);
  }

  public int plusMonths(int day, int months) throws IndexOutOfBoundsException, IllegalArgumentException {
    needDay(day);
    long index = (long) Days.monthWith(day) + months;
    if (index < 0 || index >= Days.MONTHS) {
      throw new IllegalArgumentException("the year would not be 1900 to 2099");
    }
    int month = (int) index;
    return Days.monthBegin(month) + Math.min(Days.numberInMonth(day), Days.monthLength(month)) - 1;
  }

  // ---- patterns

  public int addPattern(int month, int kind, int number) throws IllegalArgumentException, IllegalStateException {
    if (month < 0 || month > 12 || kind < 0 || kind > EASTER_KIND) {
      throw new IllegalArgumentException("no such month or kind");
    }
    if (number < 1 || number > Pattern.greatestNumber(kind)) {
      throw new IllegalArgumentException("no such number of this kind");
    }
    if (kind == EASTER_KIND && month != 0) {
      throw new IllegalArgumentException("a day by Easter has no month");
    }
    int added = patternCount;
    if (added < 0 || added >= patterns.length) {
      throw new IllegalStateException("there are 24 patterns");
    }
    patterns[added] = new Pattern(month, kind, number);
    patternCount = added + 1;
    return added;
  }

  public int daysTold(int pattern, int year) throws IndexOutOfBoundsException, IllegalArgumentException {
    Pattern asked = needPattern(pattern);
    needYear(year);
    return asked.countIn(year);
  }

  public boolean tells(int pattern, int day) throws IndexOutOfBoundsException {
    Pattern asked = needPattern(pattern);
    needDay(day);
    return asked.toldIn(Days.monthWith(day)) == day;
  }

  public int nextTold(int pattern, int day) throws IndexOutOfBoundsException {
    Pattern asked = needPattern(pattern);
    needDay(day);
    return asked.firstFrom(day);
  }

  // ---- places

  public int addPlace(int base) throws IllegalArgumentException, IllegalStateException {
    if (base < -Place.MOST_BASE || base > Place.MOST_BASE) {
      throw new IllegalArgumentException("base is not -840 to 840");
    }
    int added = placeCount;
    if (added < 0 || added >= places.length) {
      throw new IllegalStateException("there are 6 places");
    }
    places[added] = new Place(base);
    placeCount = added + 1;
    return added;
  }

  public int addTurn(int place, int firstYear, int lastYear, int pattern, int minute, int clock, int saving)
      throws IndexOutOfBoundsException, IllegalArgumentException, IllegalStateException {
    Place changed = needPlace(place);
    Pattern told = needPattern(pattern);
    needYears(firstYear, lastYear);
    if (minute < 0 || minute >= DAY_MINUTES || clock < 0 || clock > 2 || saving < 0 || saving > Place.MOST_SAVING) {
      throw new IllegalArgumentException("no such minute, clock or saving");
    }
    if (told.month == 0 && told.kind != EASTER_KIND) {
      throw new IllegalArgumentException("a turn goes by one day of a year");
    }
    if (!changed.hasRoom()) {
      throw new IllegalStateException("the place has 6 turns");
    }
    int added = changed.put(new Turn(firstYear, lastYear, told, minute, clock, saving));
    changed.findPieces();
    return added;
  }

  public int savingAt(int place, int moment) throws IndexOutOfBoundsException {
    Place asked = needPlace(place);
    needMoment(moment);
    return asked.savingThen(moment);
  }

  public int localAt(int place, int moment) throws IndexOutOfBoundsException {
    Place asked = needPlace(place);
    needMoment(moment);
    return asked.show(moment);
  }

  public int nextChange(int place, int moment) throws IndexOutOfBoundsException {
    Place asked = needPlace(place);
    needMoment(moment);
    return asked.changeBehind(moment);
  }

  public int showsOften(int place, int local) throws IndexOutOfBoundsException {
    return needPlace(place).countShown(local);
  }

  public int momentOf(int place, int local) throws IndexOutOfBoundsException {
    return needPlace(place).momentFor(local);
  }

  public int lastMomentOf(int place, int local) throws IndexOutOfBoundsException {
    return needPlace(place).lastShown(local);
  }

  public int ahead(int place, int other, int moment) throws IndexOutOfBoundsException {
    Place asked = needPlace(place);
    Place compared = needPlace(other);
    needMoment(moment);
    return asked.show(moment) - compared.show(moment);
  }

  // ---- series

  public int addSeries(int place, int begin, int kind, int step, int weekdays)
      throws IndexOutOfBoundsException, IllegalArgumentException, IllegalStateException {
    Place clock = needPlace(place);
    if (begin < 0 || begin > LAST_MOMENT) {
      throw new IllegalArgumentException("no such begin");
    }
    if (kind < 0 || kind > 3 || step < 1 || step > 60 || weekdays < 0 || weekdays > 127) {
      throw new IllegalArgumentException("no such kind, step or weekdays");
    }
    int added = seriesCount;
    if (added < 0 || added >= seriesRow.length) {
      throw new IllegalStateException("there are 6 series");
    }
    Series made = new Series(clock, begin, kind, step, weekdays);
    made.findDates(fitting);
    seriesRow[added] = made;
    seriesCount = added + 1;
    return added;
  }

  public int usePattern(int series, int pattern) throws IndexOutOfBoundsException, IllegalStateException {
    Series changed = needSeries(series);
    Pattern told = needPattern(pattern);
    int before = changed.patternCount;
    if (before < 0 || before >= changed.patterns.length) {
      throw new IllegalStateException("the series has 4 patterns");
    }
    changed.patterns[before] = told;
    changed.patternCount = before + 1;
    changed.findDates(fitting);
    return before + 1;
  }

  public int setChoice(int series, int choice) throws IndexOutOfBoundsException, IllegalArgumentException {
    Series changed = needSeries(series);
    if (choice < -6 || choice > 6) {
      throw new IllegalArgumentException("choice is not -6 to 6");
    }
    int before = changed.choice;
    changed.choice = choice;
    changed.findDates(fitting);
    return before;
  }

  public int setMost(int series, int most) throws IndexOutOfBoundsException, IllegalArgumentException {
    Series changed = needSeries(series);
    if (most < 0 || most > 500) {
      throw new IllegalArgumentException("most is not 0 to 500");
    }
    int before = changed.most;
    changed.most = most;
    changed.findDates(fitting);
    return before;
  }

  public int setLast(int series, int day) throws IndexOutOfBoundsException, IllegalArgumentException {
    Series changed = needSeries(series);
    if (day < changed.beginDay || day > changed.latest) {
      throw new IllegalArgumentException("no last DAY of this series");
    }
    int before = changed.last;
    changed.last = day;
    changed.findDates(fitting);
    return before;
  }

  public int except(int series, int day) throws IndexOutOfBoundsException, IllegalStateException {
    Series changed = needSeries(series);
    needDay(day);
    int before = changed.exceptionCount;
    if (changed.isException(day)) {
      return before;
    }
    if (before < 0 || before >= changed.exceptions.length) {
      throw new IllegalStateException("the series has 8 exceptions");
    }
    changed.exceptions[before] = day;
    changed.exceptionCount = before + 1;
    changed.findDates(fitting);
    return before + 1;
  }

  public int dates(int series) throws IndexOutOfBoundsException {
    return needSeries(series).foundCount;
  }

  public int dateAt(int series, int k) throws IndexOutOfBoundsException {
    Series asked = needSeries(series);
    needDate(asked, k);
    return asked.date(k);
  }

  public int dateFrom(int series, int day) throws IndexOutOfBoundsException {
    Series asked = needSeries(series);
    needDay(day);
    return asked.firstFrom(day);
  }

  public int dateMoment(int series, int k) throws IndexOutOfBoundsException {
    Series asked = needSeries(series);
    needDate(asked, k);
    return asked.momentOfDate(k);
  }

  public int common(int series, int other) throws IndexOutOfBoundsException {
    Series asked = needSeries(series);
    Series compared = needSeries(other);
    return asked.countShared(compared);
  }

  public int widestGap(int series) throws IndexOutOfBoundsException {
    return needSeries(series).greatestGap();
  }

  // ---- work

  public int setWorkPlace(int place) throws IndexOutOfBoundsException {
    Place clock = needPlace(place);
    int before = work.placeNumber;
    work.clock = clock;
    work.placeNumber = place;
    return before;
  }

  public int setWeek(int weekdays) throws IllegalArgumentException {
    if (weekdays < 1 || weekdays > 127) {
      throw new IllegalArgumentException("weekdays is not 1 to 127");
    }
    int before = work.week;
    work.week = weekdays;
    return before;
  }

  public int setHours(int first, int last) throws IllegalArgumentException {
    if (first < 0 || first >= DAY_MINUTES) {
      throw new IllegalArgumentException("first is not 0 to 1439");
    }
    if (last <= first || last > DAY_MINUTES) {
      throw new IllegalArgumentException("last is not first + 1 to 1440");
    }
    work.firstMinute = first;
    work.lastMinute = last;
    return last - first;
  }

  public int addFeast(int firstYear, int lastYear, int pattern, int way)
      throws IndexOutOfBoundsException, IllegalArgumentException, IllegalStateException {
    Pattern told = needPattern(pattern);
    needYears(firstYear, lastYear);
    if (way < 0 || way > 3) {
      throw new IllegalArgumentException("way is not 0 to 3");
    }
    int added = work.feastCount;
    if (added < 0 || added >= work.feasts.length) {
      throw new IllegalStateException("there are 20 feasts");
    }
    work.feasts[added] = new Feast(firstYear, lastYear, told, way);
    work.feastCount = added + 1;
    return added;
  }

  public int feastOn(int day) throws IndexOutOfBoundsException {
    needDay(day);
    work.findFeasts(day, day);
    return work.feastFound(day);
  }

  public boolean isWorking(int day) throws IndexOutOfBoundsException {
    needDay(day);
    work.findFeasts(day, day);
    return work.worksOn(day);
  }

  public int workingDays(int from, int days) throws IndexOutOfBoundsException, IllegalArgumentException {
    needDay(from);
    if (days < 0 || days > Work.MOST_DAYS_ASKED || from + days > LAST_DAY + 1) {
      throw new IllegalArgumentException("no such number of days");
    }
    return work.countDays(from, days);
  }

  public int plusWorking(int day, int days) throws IndexOutOfBoundsException, IllegalArgumentException {
    needDay(day);
    if (days < -200 || days > 200) {
      throw new IllegalArgumentException("days is not -200 to 200");
    }
    return work.dayBehind(day, days);
  }

  public boolean isWorkingMinute(int moment) throws IndexOutOfBoundsException {
    needMoment(moment);
    work.findFeastsWithin(moment, moment + 1);
    return work.minutesWithin(moment, moment + 1) > 0;
  }

  public int workWithin(int from, int minutes) throws IndexOutOfBoundsException, IllegalArgumentException {
    needMoment(from);
    if (minutes < 0 || minutes > Work.MOST_MINUTES || from + minutes > LAST_MOMENT + 1) {
      throw new IllegalArgumentException("no such number of minutes");
    }
    work.findFeastsWithin(from, from + minutes);
    return work.minutesWithin(from, from + minutes);
  }

  public int doneAt(int from, int work) throws IndexOutOfBoundsException, IllegalArgumentException {
    needMoment(from);
    if (work < 1 || work > 10000) {
      throw new IllegalArgumentException("work is not 1 to 10000");
    }
    int latest = Math.min(from + Work.MOST_MINUTES, LAST_MOMENT);
    this.work.findFeastsWithin(from, latest);
    return this.work.finish(from, work, latest);
  }

  public double meanGap(int series) throws IndexOutOfBoundsException {
    return needSeries(series).meanOfGaps();
  }

  public long digest() {
    long sum = digestPatterns(2441);
    sum = digestPlaces(sum);
    sum = digestSeries(sum);
    return digestWork(sum);
  }

  private static long mix(long sum, long value) {
    return sum * 31 + value;
  }

  private long digestPatterns(long before) {
    long sum = mix(before, patternCount);
    for (int k = 0; k < patterns.length; k++) {
      Pattern each = patterns[k];
      if (each != null) {
        sum = mix(sum, each.countIn(2000));
        sum = mix(sum, each.firstFrom(36600));
      }
    }
    return sum;
  }

  private long digestPlaces(long before) {
    int moment = 52596000;
    int local = 52740120;
    long sum = mix(before, placeCount);
    for (int k = 0; k < places.length; k++) {
      Place each = places[k];
      if (each != null) {
        sum = mix(sum, each.savingThen(moment));
        sum = mix(sum, each.show(moment));
        sum = mix(sum, each.changeBehind(moment));
        sum = mix(sum, each.countShown(local));
        sum = mix(sum, each.momentFor(local));
        sum = mix(sum, each.lastShown(local));
      }
    }
    return sum;
  }

  private long digestSeries(long before) {
    long sum = mix(before, seriesCount);
    for (int k = 0; k < seriesRow.length; k++) {
      Series each = seriesRow[k];
      if (each != null) {
        sum = mix(sum, each.foundCount);
        sum = mix(sum, each.greatestGap());
        if (each.foundCount > 0) {
          sum = digestDates(sum, each);
        }
      }
    }
    return sum;
  }

  private long digestDates(long before, Series series) {
    long sum = mix(before, series.date(0));
    sum = mix(sum, series.momentOfDate(0));
    int last = series.foundCount - 1;
    if (last > 0) {
      sum = mix(sum, series.date(last));
      sum = mix(sum, series.momentOfDate(last));
    }
    for (int k = 0; k < seriesRow.length; k++) {
      Series other = seriesRow[k];
      if (other != null) {
        sum = mix(sum, series.countShared(other));
      }
    }
    return sum;
  }

  private long digestWork(long before) {
    int first = 36500;
    int moment = 52560000;
    long sum = before;
    work.findFeasts(first, first + 19);
    for (int day = first; day < first + 20; day++) {
      sum = mix(sum, work.feastFound(day));
      sum = mix(sum, work.worksOn(day) ? 1 : 0);
    }
    sum = mix(sum, work.countDays(first, 400));
    sum = mix(sum, work.dayBehind(first, 20));
    work.findFeastsWithin(moment, moment + Work.MOST_MINUTES);
    sum = mix(sum, work.minutesWithin(moment, moment + 20000));
    return mix(sum, work.finish(moment, 3000, moment + Work.MOST_MINUTES));
  }

  // What the calls need, or else throw.

  private static void needDay(int day) {
    if (day < 0 || day > LAST_DAY) {
      throw new IndexOutOfBoundsException("no such DAY");
    }
  }

  private static void needMoment(int moment) {
    if (moment < 0 || moment > LAST_MOMENT) {
      throw new IndexOutOfBoundsException("no such MOMENT");
    }
  }

  private static void needYear(int year) {
    if (year < FIRST_YEAR || year > LAST_YEAR) {
      throw new IllegalArgumentException("year is not 1900 to 2099");
    }
  }

  private static void needYears(int firstYear, int lastYear) {
    needYear(firstYear);
    if (lastYear < firstYear || lastYear > LAST_YEAR) {
      throw new IllegalArgumentException("lastYear is not firstYear to 2099");
    }
  }

  private Pattern needPattern(int pattern) {
    Pattern found = pattern < 0 || pattern >= patterns.length ? null : patterns[pattern];
    if (found == null) {
      throw new IndexOutOfBoundsException("no such pattern");
    }
    return found;
  }

  private Place needPlace(int place) {
    Place found = place < 0 || place >= places.length ? null : places[place];
    if (found == null) {
      throw new IndexOutOfBoundsException("no such place");
    }
    return found;
  }

  private Series needSeries(int series) {
    Series found = series < 0 || series >= seriesRow.length ? null : seriesRow[series];
    if (found == null) {
      throw new IndexOutOfBoundsException("no such series");
    }
    return found;
  }

  private static void needDate(Series series, int k) {
    if (k < 0 || k >= series.foundCount) {
      throw new IndexOutOfBoundsException("no such date");
    }
  }

  /** DAYS, with months told by an index: 0 is January 1900, 2399 December 2099. */
  static final class Days {
    static final int MONTHS = 2400;

    static int yearWith(int day) {
      // 1461 days are four years; that 1900 has no leap day puts the years' ends just right.
      return FIRST_YEAR + 4 * (day + 1) / 1461;
    }

    /** The index of January. */
    static int januaryOf(int year) {
      return 12 * (year - FIRST_YEAR);
    }

    /** The first DAY of a month; of all months behind the last one, the DAY behind the last one. */
    static int monthBegin(int index) {
      if (index < 0) {
        return 0;
      }
      if (index >= MONTHS) {
        return LAST_DAY + 1;
      }
      int years = index / 12;
      int month = index % 12 + 1;
      // Each fourth year but the first one puts a leap day behind it.
      int newYear = 365 * years + (years - 1) / 4;
      // The fraction tells the days ahead of a month as if February had 30.
      int tooMany = month <= 2 ? 0 : years % 4 == 0 && years != 0 ? 1 : 2;
      return newYear + (367 * month - 362) / 12 - tooMany;
    }

    static int monthLength(int index) {
      return monthBegin(index + 1) - monthBegin(index);
    }

    static int monthWith(int day) {
      int january = januaryOf(yearWith(day));
      // No month has more than 31 days, and so few have less that the guess is at most one short.
      int guess = january + (day - monthBegin(january)) / 31;
      return monthBegin(guess + 1) <= day ? guess + 1 : guess;
    }

    static int numberInMonth(int day) {
      return day - monthBegin(monthWith(day)) + 1;
    }

    static int weekday(int day) {
      return Math.floorMod(day, 7);
    }

    /** The Thursday of the week of a DAY: it tells to which year the week belongs. */
    static int thursdayNear(int day) {
      return day - weekday(day) + 3;
    }

    static int easter(int year) {
      int a = year % 19;
      int b = year / 100;
      int c = year % 100;
      int d = (19 * a + b - b / 4 - (b - (b + 8) / 25 + 1) / 3 + 15) % 30;
      int e = (32 + 2 * (b % 4) + 2 * (c / 4) - d - c % 4) % 7;
      int f = d + e - 7 * ((a + 11 * d + 22 * e) / 451) + 114;
      return monthBegin(januaryOf(year) + f / 31 - 1) + f % 31;
    }

    static boolean isIn(int weekdays, int day) {
      return (weekdays >> Math.floorMod(day, 7) & 1) != 0;
    }
  }

  /** Tells days of a year; never more than one of a month. */
  static final class Pattern {
    final int month;
    final int kind;
    final int number;

    Pattern(int month, int kind, int number) {
      this.month = month;
      this.kind = kind;
      this.number = number;
    }

    static int greatestNumber(int kind) {
      if (kind < 2) {
        return 31;
      }
      return kind < EASTER_KIND ? 5 : 200;
    }

    /** The DAY that it tells in the month with this index; -1 without one. */
    int toldIn(int index) {
      if (month != 0 && month != index % 12 + 1) {
        return -1;
      }
      int begin = Days.monthBegin(index);
      int length = Days.monthBegin(index + 1) - begin;
      int told;
      if (kind == EASTER_KIND) {
        told = Days.easter(FIRST_YEAR + index / 12) + number - 100 - begin + 1;
      } else {
        told = numberTold(begin, length);
      }
      return told < 1 || told > length ? -1 : begin + told - 1;
    }

    /** The day of the month that it means if it does not go by Easter; outside of the month if that has no such day. */
    private int numberTold(int begin, int length) {
      if (kind == 0) {
        return number;
      }
      if (kind == 1) {
        return length - number + 1;
      }
      if (kind <= 8) {
        return 1 + Math.floorMod(kind - 2 - begin, 7) + 7 * (number - 1);
      }
      return length - Math.floorMod(begin + length - 1 - (kind - 9), 7) - 7 * (number - 1);
    }

    int countIn(int year) {
      int january = Days.januaryOf(year);
      int count = 0;
      for (int index = january; index < january + 12; index++) {
        if (toldIn(index) >= 0) {
          count++;
        }
      }
      return count;
    }

    int firstFrom(int day) {
      for (int index = Days.monthWith(day); index < Days.MONTHS; index++) {
        int told = toldIn(index);
        if (told >= day) {
          return told;
        }
      }
      return -1;
    }
  }

  static final class Turn {
    final int firstYear;
    final int lastYear;
    final Pattern pattern;
    final int minute;
    final int clock;
    final int saving;

    Turn(int firstYear, int lastYear, Pattern pattern, int minute, int clock, int saving) {
      this.firstYear = firstYear;
      this.lastYear = lastYear;
      this.pattern = pattern;
      this.minute = minute;
      this.clock = clock;
      this.saving = saving;
    }

    /** DAY and minute of the turn in a year, as one number; -1 if it does not happen in it. */
    int toldIn(int year) {
      if (year < firstYear || year > lastYear) {
        return -1;
      }
      int january = Days.januaryOf(year);
      for (int index = january; index < january + 12; index++) {
        int day = pattern.toldIn(index);
        if (day >= 0) {
          return DAY_MINUTES * day + minute;
        }
      }
      return -1;
    }

    /** The MOMENT of the turn, without a look at the turn ahead of it, that left a saving. */
    int momentOfTold(int told, int base, int savingAhead) {
      int moment = told;
      if (clock != 2) {
        moment -= base;
      }
      if (clock == 0) {
        moment -= savingAhead;
      }
      return moment;
    }
  }

  /** A clock: the MOMENTS lie in pieces, one behind the other, each with one saving. */
  static final class Place {
    static final int MOST_BASE = 840;
    static final int MOST_SAVING = 180;
    private static final int MOST_TURNS = 6;

    final int base;
    private final Turn[] turns;
    private int turnCount;
    private final int[] told;
    private final int[] begins;
    private final int[] savings;
    private int pieces;

    Place(int base) {
      this.base = base;
      turns = new Turn[MOST_TURNS];
      turnCount = 0;
      told = new int[MOST_TURNS];
      begins = new int[1 + MOST_TURNS * (LAST_YEAR - FIRST_YEAR + 1)];
      savings = new int[begins.length];
      pieces = 1;
    }

    boolean hasRoom() {
      return turnCount < turns.length;
    }

    int put(Turn turn) {
      int added = turnCount;
      if (added >= 0 && added < turns.length) {
        turns[added] = turn;
        turnCount = added + 1;
      }
      return added;
    }

    void findPieces() {
      pieces = 0;
      addPiece(0, 0);
      int moment = -MOST_BASE - MOST_SAVING;
      int saving = 0;
      for (int year = FIRST_YEAR; year <= LAST_YEAR; year++) {
        tellTurns(year);
        for (int n = 0; n < MOST_TURNS; n++) {
          int next = takeEarliest();
          Turn turn = next < 0 || next >= turns.length ? null : turns[next];
          if (turn == null) {
            break;
          }
          moment = Math.max(moment, turn.momentOfTold(turn.toldIn(year), base, saving));
          saving = turn.saving;
          addPiece(moment, saving);
        }
      }
    }

    private void tellTurns(int year) {
      for (int k = 0; k < told.length && k < turns.length; k++) {
        Turn turn = turns[k];
        told[k] = turn == null ? -1 : turn.toldIn(year);
      }
    }

    /** The turn that is told earliest of those left of a year, which it leaves with that; -1 without one. */
    private int takeEarliest() {
      int found = -1;
      int least = LAST_MOMENT + 1;
      for (int k = 0; k < told.length; k++) {
        if (told[k] >= 0 && told[k] < least) {
          found = k;
          least = told[k];
        }
      }
      if (found >= 0 && found < told.length) {
        told[found] = -1;
      }
      return found;
    }

    /** From a MOMENT on, that is not less than the ones before, the saving is this one. */
    private void addPiece(int moment, int saving) {
      if (moment > LAST_MOMENT) {
        return;
      }
      int begin = Math.max(moment, 0);
      int last = pieces - 1;
      boolean sameBegin = last >= 0 && last < begins.length && begins[last] == begin;
      int at = sameBegin ? last : pieces;
      if (at >= 0 && at < begins.length && at < savings.length) {
        begins[at] = begin;
        savings[at] = saving;
        pieces = at + 1;
      }
    }

    /** The first MOMENT of a piece; behind the last piece the one behind the last MOMENT. */
    int pieceBegin(int piece) {
      return piece < 0 || piece >= pieces || piece >= begins.length ? LAST_MOMENT + 1 : begins[piece];
    }

    private int pieceSaving(int piece) {
      return piece < 0 || piece >= pieces || piece >= savings.length ? 0 : savings[piece];
    }

    /** By how much the clock shows more than the MOMENT all through a piece. */
    int pieceShift(int piece) {
      return base + pieceSaving(piece);
    }

    /** The piece of a MOMENT; ahead of all the first, behind all the last one. */
    int pieceWith(long moment) {
      int low = 0;
      int high = pieces - 1;
      for (int n = 0; n < 32 && low < high; n++) {
        int middle = (low + high + 1) / 2;
        if (pieceBegin(middle) <= moment) {
          low = middle;
        } else {
          high = middle - 1;
        }
      }
      return low;
    }

    int savingThen(int moment) {
      return pieceSaving(pieceWith(moment));
    }

    int show(int moment) {
      return moment + base + savingThen(moment);
    }

    int changeBehind(int moment) {
      for (int piece = pieceWith(moment) + 1; piece < pieces; piece++) {
        if (pieceSaving(piece) != pieceSaving(piece - 1)) {
          return pieceBegin(piece);
        }
      }
      return -1;
    }

    /** The MOMENT in a piece at which the clock shows a LOCAL time; -1 without one. */
    private int shownIn(int piece, int local) {
      long moment = (long) local - pieceShift(piece);
      return moment >= pieceBegin(piece) && moment < pieceBegin(piece + 1) ? (int) moment : -1;
    }

    /** The earliest MOMENT at which the clock may show a LOCAL time, or be put forward over it. */
    private long earliest(int local) {
      return (long) local - base - MOST_SAVING;
    }

    /** The latest such MOMENT. */
    private long latest(int local) {
      return (long) local - base;
    }

    int countShown(int local) {
      int last = pieceWith(latest(local));
      int count = 0;
      for (int piece = pieceWith(earliest(local)); piece <= last; piece++) {
        if (shownIn(piece, local) >= 0) {
          count++;
        }
      }
      return count;
    }

    int lastShown(int local) {
      int first = pieceWith(earliest(local));
      for (int piece = pieceWith(latest(local)); piece >= first; piece--) {
        int moment = shownIn(piece, local);
        if (moment >= 0) {
          return moment;
        }
      }
      return -1;
    }

    int momentFor(int local) {
      int first = pieceWith(earliest(local));
      int last = pieceWith(latest(local));
      for (int piece = first; piece <= last; piece++) {
        int moment = shownIn(piece, local);
        if (moment >= 0) {
          return moment;
        }
      }
      return momentPassing(local, first, last);
    }

    /** The first MOMENT with which one of these pieces begins, put forward over a LOCAL time; -1 without one. */
    private int momentPassing(int local, int first, int last) {
      for (int piece = Math.max(1, first); piece <= last; piece++) {
        int moment = pieceBegin(piece);
        boolean earlierAhead = moment - 1 + pieceShift(piece - 1) < local;
        if (earlierAhead && moment + pieceShift(piece) > local) {
          return moment;
        }
      }
      return -1;
    }
  }

  /** A row of numbers, one for each DAY from some DAY up to another; all other DAYS have -1. */
  static final class DayRow {
    private final int[] numbers;
    private int first;
    private int last;

    DayRow(int mostDays) {
      numbers = new int[mostDays < 0 ? 0 : mostDays];
      first = 0;
      last = -1;
    }

    /** Begins anew, with -1 for each DAY. */
    void clear(int firstDay, int lastDay) {
      first = firstDay;
      last = Math.min(lastDay, firstDay + numbers.length - 1);
      for (int k = 0; k < numbers.length && k <= last - first; k++) {
        numbers[k] = -1;
      }
    }

    int firstDay() {
      return first;
    }

    int lastDay() {
      return last;
    }

    int read(int day) {
      int at = day - first;
      return day > last || at < 0 || at >= numbers.length ? -1 : numbers[at];
    }

    void write(int day, int number) {
      int at = day - first;
      if (day <= last && at >= 0 && at < numbers.length) {
        numbers[at] = number;
      }
    }
  }

  /** A series, with its dates, which are found anew whenever its rules have changed. */
  static final class Series {
    private static final int MOST_SPAN = 366;
    private static final int REACH = 4000;
    /** The spans of the first and of the last DAY may stand out by a year on both sides. */
    static final int ROW_DAYS = REACH + 1 + 2 * MOST_SPAN;

    final Place place;
    final int begin;
    final int beginDay;
    final int kind;
    final int step;
    final int weekdays;
    final int latest;
    /** Tells the days that fit if the series has no patterns; null if all do. */
    private final Pattern usual;
    final Pattern[] patterns;
    int patternCount;
    int choice;
    int most;
    int last;
    final int[] exceptions;
    int exceptionCount;
    private final int[] found;
    int foundCount;
    private int taken;

    Series(Place place, int begin, int kind, int step, int weekdays) {
      this.place = place;
      this.begin = begin;
      this.kind = kind;
      this.step = step;
      this.weekdays = weekdays;
      beginDay = begin / DAY_MINUTES;
      latest = Math.min(beginDay + REACH, LAST_DAY);
      int month = kind == 3 ? Days.monthWith(beginDay) % 12 + 1 : 0;
      usual = kind < 2 ? null : new Pattern(month, 0, Days.numberInMonth(beginDay));
      patterns = new Pattern[4];
      patternCount = 0;
      choice = 0;
      most = 0;
      last = latest;
      exceptions = new int[8];
      exceptionCount = 0;
      found = new int[REACH + 1];
      foundCount = 0;
      taken = 0;
    }

    void findDates(DayRow counting) {
      foundCount = 0;
      taken = 0;
      findCounting(counting);
      for (int n = 0; n <= REACH; n++) {
        int first = spanBegin(n * step);
        if (first > last) {
          break;
        }
        takeSpan(counting, first, Math.min(spanBegin(n * step + 1) - 1, LAST_DAY));
      }
    }

    /** The first DAY of the span that is so many spans behind the one of begin. */
    private int spanBegin(int spans) {
      switch (kind) {
        case 0:
          return beginDay + spans;
        case 1:
          return beginDay - Days.weekday(beginDay) + 7 * spans;
        case 2:
          return Days.monthBegin(Days.monthWith(beginDay) + spans);
        default:
          return Days.monthBegin(Days.januaryOf(Days.yearWith(beginDay) + spans));
      }
    }

    /** Marks the DAYS that count, whether they lie in a span or not. */
    private void findCounting(DayRow counting) {
      counting.clear(spanBegin(0), Math.min(last + MOST_SPAN, LAST_DAY));
      if (patternCount == 0) {
        markTold(counting, usual);
      }
      for (int k = 0; k < patternCount && k < patterns.length; k++) {
        markTold(counting, patterns[k]);
      }
    }

    /** Marks what a pattern tells, or all DAYS without one, if the weekday is right. */
    private void markTold(DayRow counting, Pattern pattern) {
      int right = rightWeekdays();
      if (pattern == null) {
        for (int day = counting.firstDay(); day <= counting.lastDay(); day++) {
          markDay(counting, day, right);
        }
        return;
      }
      int lastMonth = Days.monthWith(counting.lastDay());
      for (int index = Days.monthWith(counting.firstDay()); index <= lastMonth; index++) {
        int day = pattern.toldIn(index);
        if (day >= 0) {
          markDay(counting, day, right);
        }
      }
    }

    private static void markDay(DayRow counting, int day, int right) {
      if (Days.isIn(right, day)) {
        counting.write(day, 1);
      }
    }

    private int rightWeekdays() {
      if (weekdays != 0) {
        return weekdays;
      }
      return kind == 1 && patternCount == 0 ? 1 << Days.weekday(beginDay) : 127;
    }

    private void takeSpan(DayRow counting, int first, int end) {
      if (choice != 0) {
        takeDay(chosen(counting, first, end));
        return;
      }
      for (int day = first; day <= end; day++) {
        if (counting.read(day) > 0) {
          takeDay(day);
        }
      }
    }

    /** The one DAY of a span that the choice leaves; -1 without one. */
    private int chosen(DayRow counting, int first, int end) {
      int wanted = Math.abs(choice);
      for (int n = 0; n <= end - first; n++) {
        int day = choice > 0 ? first + n : end - n;
        if (counting.read(day) > 0) {
          wanted--;
          if (wanted == 0) {
            return day;
          }
        }
      }
      return -1;
    }

    private void takeDay(int day) {
      boolean full = most != 0 && taken >= most;
      if (day < beginDay || day > last || full) {
        return;
      }
      taken++;
      int at = foundCount;
      if (!isException(day) && at >= 0 && at < found.length) {
        found[at] = day;
        foundCount = at + 1;
      }
    }

    boolean isException(int day) {
      for (int k = 0; k < exceptionCount && k < exceptions.length; k++) {
        if (exceptions[k] == day) {
          return true;
        }
      }
      return false;
    }

    int date(int k) {
      return k < 0 || k >= foundCount || k >= found.length ? -1 : found[k];
    }

    int firstFrom(int day) {
      for (int k = 0; k < foundCount; k++) {
        if (date(k) >= day) {
          return k;
        }
      }
      return -1;
    }

    int momentOfDate(int k) {
      return place.momentFor(DAY_MINUTES * date(k) + begin % DAY_MINUTES);
    }

    int countShared(Series other) {
      int count = 0;
      int theirs = 0;
      for (int k = 0; k < foundCount; k++) {
        int day = date(k);
        while (theirs < other.foundCount && other.date(theirs) < day) {
          theirs++;
        }
        if (other.date(theirs) == day) {
          count++;
        }
      }
      return count;
    }

    int greatestGap() {
      int greatest = 0;
      for (int k = 1; k < foundCount; k++) {
        greatest = Math.max(greatest, date(k) - date(k - 1));
      }
      return greatest;
    }

    double meanOfGaps() {
      int gaps = foundCount - 1;
      if (gaps < 1) {
        return 0;
      }
      return (double) (date(gaps) - date(0)) / gaps;
    }
  }

  static final class Feast {
    final int firstYear;
    final int lastYear;
    final Pattern pattern;
    final int way;

    Feast(int firstYear, int lastYear, Pattern pattern, int way) {
      this.firstYear = firstYear;
      this.lastYear = lastYear;
      this.pattern = pattern;
      this.way = way;
    }
  }

  /** The calendar of work. Its feasts are found anew for the DAYS that a call looks at. */
  static final class Work {
    static final int MOST_DAYS_ASKED = 400;
    static final int MOST_MINUTES = 50000;
    private static final int MOST_DAYS_AWAY = 500;
    private static final int MOST_FEASTS = 20;
    private static final int MOST_MOVED = 60;

    int placeNumber;
    Place clock;
    int week;
    int firstMinute;
    int lastMinute;
    final Feast[] feasts;
    int feastCount;
    private final DayRow falling;

    Work() {
      placeNumber = -1;
      clock = new Place(0);
      week = 31;
      firstMinute = 540;
      lastMinute = 1020;
      feasts = new Feast[MOST_FEASTS];
      feastCount = 0;
      falling = new DayRow(MOST_FEASTS * MOST_MOVED + MOST_DAYS_AWAY + 1);
    }

    /** Finds the smallest feast on each DAY of the first to the last one. */
    void findFeasts(int first, int last) {
      // A feast may give way to smaller ones, each of which may have come from a DAY up to 60 ahead.
      falling.clear(Math.max(0, first - MOST_MOVED * feastCount), Math.min(last, LAST_DAY));
      int firstMonth = Days.monthWith(Math.max(0, falling.firstDay() - MOST_MOVED));
      int lastMonth = Days.monthWith(Math.max(0, Math.min(falling.lastDay() + MOST_MOVED, LAST_DAY)));
      for (int k = 0; k < feastCount && k < feasts.length; k++) {
        Feast feast = feasts[k];
        if (feast != null) {
          int begin = Math.max(firstMonth, Days.januaryOf(feast.firstYear));
          findFeast(feast, k, begin, Math.min(lastMonth, Days.januaryOf(feast.lastYear) + 11));
        }
      }
    }

    /** Finds where a feast falls as it is told in some months. */
    private void findFeast(Feast feast, int number, int firstMonth, int lastMonth) {
      for (int index = firstMonth; index <= lastMonth; index++) {
        int told = feast.pattern.toldIn(index);
        int day = told < 0 ? -1 : moved(told, feast.way, number);
        if (falling.read(day) < 0) {
          falling.write(day, number);
        }
      }
    }

    /** Where a feast comes to fall; on no DAY if that is outside of the years, or nothing is free. */
    private int moved(int day, int way, int number) {
      if (way == 0 || takes(day, way, number)) {
        return day;
      }
      for (int k = 1; k <= MOST_MOVED; k++) {
        if (takes(day + k, way, number)) {
          return day + k;
        }
        if (way == 2 && takes(day - k, way, number)) {
          return day - k;
        }
      }
      return -1;
    }

    private boolean takes(int day, int way, int number) {
      if ((week >> Math.floorMod(day, 7) & 1) == 0) {
        return false;
      }
      int there = falling.read(day);
      return way != 3 || there < 0 || there >= number;
    }

    /** The smallest feast on a DAY for which the feasts were found. */
    int feastFound(int day) {
      return falling.read(day);
    }

    /** Whether a DAY for which the feasts were found is a working day. */
    boolean worksOn(int day) {
      return Days.isIn(week, day) && falling.read(day) < 0;
    }

    int countDays(int from, int days) {
      findFeasts(from, from + days);
      int count = 0;
      for (int day = from; day < from + days; day++) {
        if (worksOn(day)) {
          count++;
        }
      }
      return count;
    }

    int dayBehind(int day, int days) {
      if (days == 0) {
        return day;
      }
      int way = days > 0 ? 1 : -1;
      int farthest = Math.max(0, Math.min(day + way * MOST_DAYS_AWAY, LAST_DAY));
      findFeasts(Math.min(day, farthest), Math.max(day, farthest));
      int left = Math.abs(days);
      for (int away = 1; away <= Math.abs(farthest - day); away++) {
        if (worksOn(day + way * away)) {
          left--;
          if (left == 0) {
            return day + way * away;
          }
        }
      }
      return -1;
    }

    /** Finds the feasts of all DAYS that the clock can show from a MOMENT on and up to another one. */
    void findFeastsWithin(int from, int to) {
      int first = Math.floorDiv(from + clock.base, DAY_MINUTES);
      int last = Math.floorDiv(to + clock.base + Place.MOST_SAVING, DAY_MINUTES);
      findFeasts(Math.max(0, Math.min(first, LAST_DAY)), last);
    }

    /** How many working minutes lie from a MOMENT on and ahead of another one, if the feasts were found. */
    int minutesWithin(int from, int to) {
      int last = clock.pieceWith(to);
      int sum = 0;
      for (int piece = clock.pieceWith(from); piece <= last; piece++) {
        int shift = clock.pieceShift(piece);
        int begin = Math.max(from, clock.pieceBegin(piece));
        int end = Math.min(to, clock.pieceBegin(piece + 1));
        sum += localMinutes(begin + shift, end + shift);
      }
      return sum;
    }

    /** How many working minutes lie from a LOCAL time on and ahead of another one. */
    private int localMinutes(int from, int to) {
      int firstDay = Math.max(0, Math.floorDiv(from, DAY_MINUTES));
      int lastDay = Math.min(LAST_DAY, Math.floorDiv(to, DAY_MINUTES));
      int sum = 0;
      for (int day = firstDay; day <= lastDay; day++) {
        if (worksOn(day)) {
          int begin = Math.max(from, DAY_MINUTES * day + firstMinute);
          int end = Math.min(to, DAY_MINUTES * day + lastMinute);
          sum += Math.max(0, end - begin);
        }
      }
      return sum;
    }

    /** The first MOMENT, up to the latest one, ahead of which so much work is done, if the feasts were found; or -1. */
    int finish(int from, int wanted, int latest) {
      if (minutesWithin(from, latest) < wanted) {
        return -1;
      }
      int low = from + 1;
      int high = latest;
      for (int n = 0; n < 32 && low < high; n++) {
        int middle = low + (high - low) / 2;
        if (minutesWithin(from, middle) >= wanted) {
          high = middle;
        } else {
          low = middle + 1;
        }
      }
      return low;
    }
  }
}
