import java.time.LocalDate;
import java.util.ArrayList;
import java.util.BitSet;
import java.util.Comparator;
import java.util.HashSet;
import java.util.List;
import java.util.Map;
import java.util.TreeMap;

/** The document once more, each answer by a plain search: what the program is held against. */
final class SlowCalendar {
  static final int LAST_DAY = 73048;
  static final int LAST_MOMENT = 105190559;
  private static final LocalDate[] DATES = allDates();

  private record Rule(int month, int kind, int number, BitSet told) {
  }

  private record Turn(int firstYear, int lastYear, int pattern, int minute, int clock, int saving) {
  }

  private record Happening(int told, int number, Turn turn) {
  }

  private record Feast(int firstYear, int lastYear, int pattern, int way) {
  }

  private static final class Place {
    int base;
    final List<Turn> turns = new ArrayList<>();
    final TreeMap<Integer, Integer> savings = new TreeMap<>();
  }

  private static final class Series {
    int place;
    int begin;
    int kind;
    int step;
    int weekdays;
    int choice;
    int most;
    int last;
    int latest;
    final List<Integer> patterns = new ArrayList<>();
    final List<Integer> exceptions = new ArrayList<>();
    List<Integer> dates;
  }

  private final List<Rule> patterns = new ArrayList<>();
  private final List<Place> places = new ArrayList<>();
  private final List<Series> series = new ArrayList<>();
  private final List<Feast> feasts = new ArrayList<>();
  private int workPlace = -1;
  private int week = 31;
  private int first = 540;
  private int last = 1020;
  private List<BitSet> falling;

  private static LocalDate[] allDates() {
    LocalDate[] all = new LocalDate[LAST_DAY + 1];
    for (int day = 0; day <= LAST_DAY; day++) {
      all[day] = LocalDate.of(1900, 1, 1).plusDays(day);
    }
    return all;
  }

  static int day(int year, int month, int day) {
    return (int) (LocalDate.of(year, month, day).toEpochDay() - LocalDate.of(1900, 1, 1).toEpochDay());
  }

  /** Easter by another formula than the document's (J. M. Oudin's). */
  static int easter(int year) {
    int century = year / 100;
    int golden = year % 19;
    int k = (century - 17) / 25;
    int i = (century - century / 4 - (century - k) / 3 + 19 * golden + 15) % 30;
    i = i - i / 28 * (1 - i / 28 * (29 / (i + 1)) * ((21 - golden) / 11));
    int j = (year + year / 4 + i + 2 - century + century / 4) % 7;
    int l = i - j;
    int month = 3 + (l + 40) / 44;
    return day(year, month, l + 28 - 31 * (month / 4));
  }

  private static void index(boolean holds) {
    if (!holds) {
      throw new IndexOutOfBoundsException();
    }
  }

  private static void argument(boolean holds) {
    if (!holds) {
      throw new IllegalArgumentException();
    }
  }

  private static void state(boolean holds) {
    if (!holds) {
      throw new IllegalStateException();
    }
  }

  private static boolean in(int value, int least, int greatest) {
    return value >= least && value <= greatest;
  }

  private static void needDay(int day) {
    index(in(day, 0, LAST_DAY));
  }

  private static void needMoment(int moment) {
    index(in(moment, 0, LAST_MOMENT));
  }

  private static int weekday(int day) {
    return Math.floorMod(day, 7);
  }

  private static boolean has(int weekdays, int day) {
    return (weekdays & 1 << weekday(day)) != 0;
  }

  // ---- days

  int dayOf(int year, int month, int day) {
    argument(in(year, 1900, 2099) && in(month, 1, 12) && in(day, 1, LocalDate.of(year, month, 1).lengthOfMonth()));
    return day(year, month, day);
  }

  int yearOf(int day) {
    needDay(day);
    return DATES[day].getYear();
  }

  int monthOf(int day) {
    needDay(day);
    return DATES[day].getMonthValue();
  }

  int dayOfMonth(int day) {
    needDay(day);
    return DATES[day].getDayOfMonth();
  }

  int weekdayOf(int day) {
    needDay(day);
    return weekday(day);
  }

  int weekOf(int day) {
    int january4th = day(yearOfWeek(day), 1, 4);
    return (day - (january4th - weekday(january4th))) / 7 + 1;
  }

  int yearOfWeek(int day) {
    needDay(day);
    return DATES[day].minusDays(weekday(day)).plusDays(3).getYear();
  }

  int easterOf(int year) {
    argument(in(year, 1900, 2099));
    return easter(year);
  }

  int plusMonths(int day, int months) {
    needDay(day);
    argument(in(months, -3000, 3000));
    LocalDate moved = DATES[day].plusMonths(months);
    argument(in(moved.getYear(), 1900, 2099));
    return day(moved.getYear(), moved.getMonthValue(), moved.getDayOfMonth());
  }

  // ---- patterns

  int addPattern(int month, int kind, int number) {
    argument(in(month, 0, 12) && in(kind, 0, 16));
    argument(in(number, 1, kind < 2 ? 31 : kind < 16 ? 5 : 200));
    argument(kind < 16 || month == 0);
    state(patterns.size() < 24);
    BitSet told = new BitSet();
    for (int day = 0; day <= LAST_DAY; day++) {
      if (isTold(month, kind, number, day)) {
        told.set(day);
      }
    }
    patterns.add(new Rule(month, kind, number, told));
    return patterns.size() - 1;
  }

  private static boolean isTold(int month, int kind, int number, int day) {
    LocalDate date = DATES[day];
    if (month != 0 && month != date.getMonthValue()) {
      return false;
    }
    int ahead = date.getDayOfMonth() - 1;
    int behind = date.lengthOfMonth() - date.getDayOfMonth();
    if (kind == 0) {
      return ahead + 1 == number;
    }
    if (kind == 1) {
      return behind + 1 == number;
    }
    if (kind <= 8) {
      return weekday(day) == kind - 2 && ahead / 7 + 1 == number;
    }
    if (kind <= 15) {
      return weekday(day) == kind - 9 && behind / 7 + 1 == number;
    }
    return day == easter(date.getYear()) + number - 100;
  }

  private Rule pattern(int pattern) {
    index(in(pattern, 0, patterns.size() - 1));
    return patterns.get(pattern);
  }

  int daysTold(int pattern, int year) {
    BitSet told = pattern(pattern).told;
    argument(in(year, 1900, 2099));
    return told.get(day(year, 1, 1), day(year, 12, 31) + 1).cardinality();
  }

  boolean tells(int pattern, int day) {
    BitSet told = pattern(pattern).told;
    needDay(day);
    return told.get(day);
  }

  int nextTold(int pattern, int day) {
    BitSet told = pattern(pattern).told;
    needDay(day);
    return told.nextSetBit(day);
  }

  // ---- places

  private Place place(int place) {
    index(in(place, 0, places.size() - 1));
    return places.get(place);
  }

  int addPlace(int base) {
    argument(in(base, -840, 840));
    state(places.size() < 6);
    Place added = new Place();
    added.base = base;
    places.add(added);
    return places.size() - 1;
  }

  int addTurn(int place, int firstYear, int lastYear, int pattern, int minute, int clock, int saving) {
    Place changed = place(place);
    Rule rule = pattern(pattern);
    argument(in(firstYear, 1900, 2099) && in(lastYear, firstYear, 2099));
    argument(in(minute, 0, 1439) && in(clock, 0, 2) && in(saving, 0, 180));
    argument(rule.month != 0 || rule.kind == 16);
    state(changed.turns.size() < 6);
    changed.turns.add(new Turn(firstYear, lastYear, pattern, minute, clock, saving));
    findSavings(changed);
    return changed.turns.size() - 1;
  }

  private void findSavings(Place place) {
    List<Happening> all = new ArrayList<>();
    for (int k = 0; k < place.turns.size(); k++) {
      Turn turn = place.turns.get(k);
      int number = k;
      patterns.get(turn.pattern).told.stream()
          .filter(day -> in(DATES[day].getYear(), turn.firstYear, turn.lastYear))
          .forEach(day -> all.add(new Happening(1440 * day + turn.minute, number, turn)));
    }
    all.sort(Comparator.comparingInt(Happening::told).thenComparingInt(Happening::number));
    place.savings.clear();
    int before = 0;
    Integer momentAhead = null;
    for (Happening each : all) {
      int clock = each.turn.clock;
      int moment = each.told - (clock == 2 ? 0 : place.base) - (clock == 0 ? before : 0);
      if (momentAhead != null && moment < momentAhead) {
        moment = momentAhead;
      }
      place.savings.put(moment, each.turn.saving);
      before = each.turn.saving;
      momentAhead = moment;
    }
  }

  /** All MOMENTS at which a turn of a place counts from, to ask about what lies around them. */
  List<Integer> turnMoments(int place) {
    return new ArrayList<>(places.get(place).savings.keySet());
  }

  int savingAt(int place, int moment) {
    Place asked = place(place);
    needMoment(moment);
    Map.Entry<Integer, Integer> ahead = asked.savings.floorEntry(moment);
    return ahead == null ? 0 : ahead.getValue();
  }

  int localAt(int place, int moment) {
    return moment + place(place).base + savingAt(place, moment);
  }

  int nextChange(int place, int moment) {
    Place asked = place(place);
    needMoment(moment);
    for (int later : asked.savings.tailMap(moment, false).keySet()) {
      if (later <= LAST_MOMENT && savingAt(place, later) != savingAt(place, later - 1)) {
        return later;
      }
    }
    return -1;
  }

  /** The MOMENTS near which a clock can show a LOCAL time at all. */
  private List<Integer> near(int place, int local) {
    long middle = (long) local - place(place).base;
    List<Integer> all = new ArrayList<>();
    for (long moment = Math.max(0, middle - 200); moment <= Math.min(LAST_MOMENT, middle + 20); moment++) {
      all.add((int) moment);
    }
    return all;
  }

  int showsOften(int place, int local) {
    return (int) near(place, local).stream().filter(moment -> localAt(place, moment) == local).count();
  }

  int momentOf(int place, int local) {
    for (int moment : near(place, local)) {
      if (localAt(place, moment) == local) {
        return moment;
      }
    }
    for (int moment : near(place, local)) {
      if (moment > 0 && localAt(place, moment) > local && localAt(place, moment - 1) < local) {
        return moment;
      }
    }
    return -1;
  }

  int lastMomentOf(int place, int local) {
    int found = -1;
    for (int moment : near(place, local)) {
      if (localAt(place, moment) == local) {
        found = moment;
      }
    }
    return found;
  }

  int ahead(int place, int other, int moment) {
    place(place);
    place(other);
    return localAt(place, moment) - localAt(other, moment);
  }

  // ---- series

  private Series series(int number) {
    index(in(number, 0, series.size() - 1));
    return series.get(number);
  }

  private Series changed(int number) {
    Series found = series(number);
    found.dates = null;
    return found;
  }

  int addSeries(int place, int begin, int kind, int step, int weekdays) {
    place(place);
    argument(in(begin, 0, LAST_MOMENT) && in(kind, 0, 3) && in(step, 1, 60) && in(weekdays, 0, 127));
    state(series.size() < 6);
    Series added = new Series();
    added.place = place;
    added.begin = begin;
    added.kind = kind;
    added.step = step;
    added.weekdays = weekdays;
    added.latest = Math.min(begin / 1440 + 4000, LAST_DAY);
    added.last = added.latest;
    series.add(added);
    return series.size() - 1;
  }

  int usePattern(int number, int pattern) {
    Series changed = changed(number);
    pattern(pattern);
    state(changed.patterns.size() < 4);
    changed.patterns.add(pattern);
    return changed.patterns.size();
  }

  int setChoice(int number, int choice) {
    Series changed = changed(number);
    argument(in(choice, -6, 6));
    int before = changed.choice;
    changed.choice = choice;
    return before;
  }

  int setMost(int number, int most) {
    Series changed = changed(number);
    argument(in(most, 0, 500));
    int before = changed.most;
    changed.most = most;
    return before;
  }

  int setLast(int number, int day) {
    Series changed = changed(number);
    argument(in(day, changed.begin / 1440, changed.latest));
    int before = changed.last;
    changed.last = day;
    return before;
  }

  int except(int number, int day) {
    Series changed = changed(number);
    needDay(day);
    if (!changed.exceptions.contains(day)) {
      state(changed.exceptions.size() < 8);
      changed.exceptions.add(day);
    }
    return changed.exceptions.size();
  }

  private static int spanOf(Series series, int day) {
    LocalDate date = DATES[day];
    switch (series.kind) {
      case 0:
        return day;
      case 1:
        return day / 7;
      case 2:
        return 12 * date.getYear() + date.getMonthValue();
      default:
        return date.getYear();
    }
  }

  private boolean counts(Series series, int day) {
    LocalDate date = DATES[day];
    LocalDate begin = DATES[series.begin / 1440];
    boolean fits = series.patterns.stream().anyMatch(pattern -> patterns.get(pattern).told.get(day));
    if (series.patterns.isEmpty()) {
      fits = series.kind < 2 || date.getDayOfMonth() == begin.getDayOfMonth()
          && (series.kind == 2 || date.getMonthValue() == begin.getMonthValue());
    }
    if (series.kind == 1 && series.weekdays == 0 && series.patterns.isEmpty()) {
      return date.getDayOfWeek() == begin.getDayOfWeek();
    }
    return fits && (series.weekdays == 0 || has(series.weekdays, day));
  }

  private List<Integer> datesOf(int number) {
    Series asked = series(number);
    if (asked.dates == null) {
      asked.dates = findDates(asked);
    }
    return asked.dates;
  }

  private List<Integer> findDates(Series series) {
    int begin = series.begin / 1440;
    TreeMap<Integer, List<Integer>> spans = new TreeMap<>();
    for (int day = Math.max(0, begin - 400); day <= Math.min(LAST_DAY, series.latest + 400); day++) {
      int span = spanOf(series, day) - spanOf(series, begin);
      if (span >= 0 && span % series.step == 0 && counts(series, day)) {
        spans.computeIfAbsent(span, none -> new ArrayList<>()).add(day);
      }
    }
    List<Integer> all = new ArrayList<>();
    for (List<Integer> days : spans.values()) {
      int wanted = series.choice > 0 ? series.choice - 1 : days.size() + series.choice;
      if (series.choice == 0) {
        all.addAll(days);
      } else if (in(wanted, 0, days.size() - 1)) {
        all.add(days.get(wanted));
      }
    }
    all.removeIf(day -> !in(day, begin, series.last));
    if (series.most > 0 && all.size() > series.most) {
      all = new ArrayList<>(all.subList(0, series.most));
    }
    all.removeAll(series.exceptions);
    return all;
  }

  int dates(int number) {
    return datesOf(number).size();
  }

  int dateAt(int number, int k) {
    index(in(k, 0, dates(number) - 1));
    return datesOf(number).get(k);
  }

  int dateFrom(int number, int day) {
    List<Integer> all = datesOf(number);
    needDay(day);
    for (int k = 0; k < all.size(); k++) {
      if (all.get(k) >= day) {
        return k;
      }
    }
    return -1;
  }

  int dateMoment(int number, int k) {
    return momentOf(series(number).place, 1440 * dateAt(number, k) + series(number).begin % 1440);
  }

  int common(int number, int other) {
    List<Integer> all = new ArrayList<>(datesOf(number));
    all.retainAll(new HashSet<>(datesOf(other)));
    return all.size();
  }

  int widestGap(int number) {
    int widest = 0;
    List<Integer> all = datesOf(number);
    for (int k = 1; k < all.size(); k++) {
      widest = Math.max(widest, all.get(k) - all.get(k - 1));
    }
    return widest;
  }

  double meanGap(int number) {
    List<Integer> all = datesOf(number);
    double sum = 0;
    for (int k = 1; k < all.size(); k++) {
      sum += all.get(k) - all.get(k - 1);
    }
    return all.size() < 2 ? 0 : sum / (all.size() - 1);
  }

  // ---- work

  int setWorkPlace(int place) {
    place(place);
    int before = workPlace;
    workPlace = place;
    return before;
  }

  int setWeek(int weekdays) {
    argument(in(weekdays, 1, 127));
    int before = week;
    week = weekdays;
    falling = null;
    return before;
  }

  int setHours(int first, int last) {
    argument(in(first, 0, 1439) && in(last, first + 1, 1440));
    this.first = first;
    this.last = last;
    return last - first;
  }

  int addFeast(int firstYear, int lastYear, int pattern, int way) {
    pattern(pattern);
    argument(in(firstYear, 1900, 2099) && in(lastYear, firstYear, 2099) && in(way, 0, 3));
    state(feasts.size() < 20);
    feasts.add(new Feast(firstYear, lastYear, pattern, way));
    falling = null;
    return feasts.size() - 1;
  }

  private void findFeasts() {
    if (falling != null) {
      return;
    }
    falling = new ArrayList<>();
    BitSet smaller = new BitSet();
    for (Feast feast : feasts) {
      BitSet falls = new BitSet();
      patterns.get(feast.pattern).told.stream()
          .filter(day -> in(DATES[day].getYear(), feast.firstYear, feast.lastYear))
          .map(day -> moved(feast.way, day, smaller))
          .filter(day -> in(day, 0, LAST_DAY))
          .forEach(falls::set);
      falling.add(falls);
      smaller.or(falls);
    }
  }

  private int moved(int way, int day, BitSet smaller) {
    boolean taken = way == 3 && smaller.get(day);
    if (way == 0 || has(week, day) && !taken) {
      return day;
    }
    Integer nearest = null;
    for (int other = day - 60; other <= day + 60; other++) {
      boolean right = has(week, other) && (way == 2 || other > day);
      boolean free = way != 3 || !in(other, 0, LAST_DAY) || !smaller.get(other);
      boolean nearer = nearest == null || Math.abs(other - day) <= Math.abs(nearest - day);
      if (right && free && nearer) {
        nearest = other;
      }
    }
    return nearest == null ? -1 : nearest;
  }

  int feastOn(int day) {
    needDay(day);
    findFeasts();
    for (int k = 0; k < falling.size(); k++) {
      if (falling.get(k).get(day)) {
        return k;
      }
    }
    return -1;
  }

  boolean isWorking(int day) {
    return feastOn(day) < 0 && has(week, day);
  }

  int workingDays(int from, int days) {
    needDay(from);
    argument(in(days, 0, 400) && from + days <= 73049);
    int count = 0;
    for (int day = from; day < from + days; day++) {
      count += isWorking(day) ? 1 : 0;
    }
    return count;
  }

  int plusWorking(int day, int days) {
    needDay(day);
    argument(in(days, -200, 200));
    int count = 0;
    int at = day;
    while (count < Math.abs(days)) {
      at += Integer.signum(days);
      if (!in(at, 0, LAST_DAY) || Math.abs(at - day) > 500) {
        return -1;
      }
      count += isWorking(at) ? 1 : 0;
    }
    return at;
  }

  boolean isWorkingMinute(int moment) {
    needMoment(moment);
    int local = workPlace < 0 ? moment : localAt(workPlace, moment);
    if (!in(local, 0, LAST_MOMENT)) {
      return false;
    }
    return in(local % 1440, first, last - 1) && isWorking(local / 1440);
  }

  int workWithin(int from, int minutes) {
    needMoment(from);
    argument(in(minutes, 0, 50000) && from + minutes <= LAST_MOMENT + 1);
    int count = 0;
    for (int moment = from; moment < from + minutes; moment++) {
      count += isWorkingMinute(moment) ? 1 : 0;
    }
    return count;
  }

  int doneAt(int from, int work) {
    needMoment(from);
    argument(in(work, 1, 10000));
    int count = 0;
    for (int done = from + 1; done <= from + 50000 && done <= LAST_MOMENT; done++) {
      count += isWorkingMinute(done - 1) ? 1 : 0;
      if (count == work) {
        return done;
      }
    }
    return -1;
  }

  long digest() {
    List<Long> values = new ArrayList<>();
    values.add((long) patterns.size());
    for (int k = 0; k < patterns.size(); k++) {
      values.addAll(List.of((long) daysTold(k, 2000), (long) nextTold(k, 36600)));
    }
    values.add((long) places.size());
    for (int k = 0; k < places.size(); k++) {
      int moment = 52596000;
      int local = 52740120;
      values.addAll(List.of((long) savingAt(k, moment), (long) localAt(k, moment), (long) nextChange(k, moment)));
      values.addAll(List.of((long) showsOften(k, local), (long) momentOf(k, local), (long) lastMomentOf(k, local)));
    }
    values.add((long) series.size());
    for (int k = 0; k < series.size(); k++) {
      values.addAll(List.of((long) dates(k), (long) widestGap(k)));
      int last = dates(k) - 1;
      if (last >= 0) {
        values.addAll(List.of((long) dateAt(k, 0), (long) dateMoment(k, 0)));
        if (last > 0) {
          values.addAll(List.of((long) dateAt(k, last), (long) dateMoment(k, last)));
        }
        for (int other = 0; other < series.size(); other++) {
          values.add((long) common(k, other));
        }
      }
    }
    for (int day = 36500; day < 36520; day++) {
      values.addAll(List.of((long) feastOn(day), isWorking(day) ? 1L : 0L));
    }
    values.addAll(List.of((long) workingDays(36500, 400), (long) plusWorking(36500, 20)));
    values.addAll(List.of((long) workWithin(52560000, 20000), (long) doneAt(52560000, 3000)));
    long sum = 2441;
    for (long value : values) {
      sum = sum * 31 + value;
    }
    return sum;
  }
}
