/** Promises 15 to 23 and part 2 of the terms: each sentence that names an edge has a test of its own. */
final class ClockEdgesTest {
  private static final int LAST_MOMENT = 105190559;
  private static final int[] NO_MOMENTS = {-1, LAST_MOMENT + 1, Integer.MIN_VALUE, Integer.MAX_VALUE};
  private static final int[] NO_PLACES = {-1, 1, 5, 6, Integer.MIN_VALUE, Integer.MAX_VALUE};
  private static final int OWN = 0;
  private static final int BASE = 1;
  private static final int NONE = 2;
  /** The patterns of each calendar here. */
  private static final int JANUARY_1ST = 0;
  private static final int DECEMBER_31ST = 1;
  private static final int JULY_1ST = 2;
  private static final int LEAP_DAY = 3;
  private static final int EACH_1ST = 4;
  private static final int EASTER = 5;

  private ClockEdgesTest() {
  }

  static void run() {
    Checks.test("edge, 15: at most 6 places", ClockEdgesTest::mostPlaces);
    Checks.test("edge, 15: the base is -840 to 840", ClockEdgesTest::bases);
    Checks.test("edge, 16: no such place or pattern", ClockEdgesTest::turnWithoutPlace);
    Checks.test("edge, 16: the first year is 1900 to 2099", ClockEdgesTest::firstYears);
    Checks.test("edge, 16: the last year is firstYear to 2099", ClockEdgesTest::lastYears);
    Checks.test("edge, 16: the minute is 0 to 1439", ClockEdgesTest::minutes);
    Checks.test("edge, 16: the clock is 0 to 2", ClockEdgesTest::clocks);
    Checks.test("edge, 16: the saving is 0 to 180", ClockEdgesTest::savings);
    Checks.test("edge, 16: no pattern with month 0, but of kind 16", ClockEdgesTest::patternsOfTurns);
    Checks.test("edge, 16: at most 6 turns of a place", ClockEdgesTest::mostTurns);
    Checks.test("edge, 16: what is named first", ClockEdgesTest::firstNamed);
    Checks.test("edge, terms: a turn in each of its years, none ahead or behind", ClockEdgesTest::yearsOfTurn);
    Checks.test("edge, terms: no turn in years in which the pattern tells none", ClockEdgesTest::yearsWithout);
    Checks.test("edge, terms: ahead of all the saving is 0", ClockEdgesTest::aheadOfAll);
    Checks.test("edge, terms: the saving lasts till another turn happens", ClockEdgesTest::lastingSaving);
    Checks.test("edge, terms: the order of turns is that of DAYS and minutes as told", ClockEdgesTest::orderAsTold);
    Checks.test("edge, terms: of several the smaller number first", ClockEdgesTest::orderByNumber);
    Checks.test("edge, terms: the MOMENT less base and saving, by the clock", ClockEdgesTest::momentOfTurn);
    Checks.test("edge, terms: the MOMENT of a turn is not less than that ahead of it", ClockEdgesTest::putOff);
    Checks.test("edge, terms: put off over the end of a year", ClockEdgesTest::putOffOverYear);
    Checks.test("edge, terms: the MOMENT of a turn can be less than 0", ClockEdgesTest::turnsAheadOfFirst);
    Checks.test("edge, terms: turns behind the last MOMENT", ClockEdgesTest::turnsBehindLast);
    Checks.test("edge, 17: a turn counts from its MOMENT on", ClockEdgesTest::savingFromMoment);
    Checks.test("edge, 17: of several at a MOMENT the last one", ClockEdgesTest::lastOfSeveral);
    Checks.test("edge, 17: no such place or MOMENT", ClockEdgesTest::savingRefused);
    Checks.test("edge, 18: LOCAL time less than 0 and more than the last MOMENT", ClockEdgesTest::localOutside);
    Checks.test("edge, 18: no such place or MOMENT", ClockEdgesTest::localRefused);
    Checks.test("edge, 19: behind this MOMENT, not at it", ClockEdgesTest::changeBehind);
    Checks.test("edge, 19: another saving than 1 less", ClockEdgesTest::changeOfSaving);
    Checks.test("edge, 19: at the first and the last MOMENT", ClockEdgesTest::changeAtEnds);
    Checks.test("edge, 19: no such place or MOMENT", ClockEdgesTest::changeRefused);
    Checks.test("edge, 20: at no MOMENT, one or two", ClockEdgesTest::oftenAtTurns);
    Checks.test("edge, 20: at turns of places far ahead and far behind", ClockEdgesTest::oftenFarOff);
    Checks.test("edge, 20: at more than two", ClockEdgesTest::oftenMore);
    Checks.test("edge, 20: MOMENTS 0 to the last one alone", ClockEdgesTest::oftenAtEnds);
    Checks.test("edge, 21: the first at which the clock shows it", ClockEdgesTest::momentFirst);
    Checks.test("edge, 21: the first at which it shows a later one", ClockEdgesTest::momentPassing);
    Checks.test("edge, 21: passed more than once, the first", ClockEdgesTest::momentPassedTwice);
    Checks.test("edge, 21: what is shown goes ahead of what is passed", ClockEdgesTest::momentShownAndPassed);
    Checks.test("edge, 21: put forward at MOMENT 0, 1 and the last one", ClockEdgesTest::momentPassedAtEnds);
    Checks.test("edge, 21: -1 without either", ClockEdgesTest::momentWithout);
    Checks.test("edge, 22: the last at which the clock shows it", ClockEdgesTest::lastMoment);
    Checks.test("edge, 22: -1 without one, though it is passed", ClockEdgesTest::lastMomentWithout);
    Checks.test("edge, 20 to 22: no such place", ClockEdgesTest::timesRefused);
    Checks.test("edge, 23: the same place, and those farthest off", ClockEdgesTest::aheadFarthest);
    Checks.test("edge, 23: no such place, other or MOMENT", ClockEdgesTest::aheadRefused);
  }

  private static int at(int year, int month, int day, int minute) {
    return 1440 * SlowCalendar.day(year, month, day) + minute;
  }

  private static ZoneCalendar patterns() {
    ZoneCalendar x = new ZoneCalendar();
    x.addPattern(1, 0, 1);
    x.addPattern(12, 0, 31);
    x.addPattern(7, 0, 1);
    x.addPattern(2, 0, 29);
    x.addPattern(0, 0, 1);
    x.addPattern(0, 16, 100);
    return x;
  }

  private static ZoneCalendar place(int base) {
    ZoneCalendar x = patterns();
    Checks.due(x.addPlace(base), 0);
    return x;
  }

  /** A turn of place 0 in one year. */
  private static void turn(ZoneCalendar x, int year, int pattern, int minute, int clock, int saving) {
    x.addTurn(0, year, year, pattern, minute, clock, saving);
  }

  /** The MOMENTS at which the saving changes, all of them, behind MOMENT 0. */
  private static void changesAre(ZoneCalendar x, int... moments) {
    int moment = 0;
    for (int each : moments) {
      int change = x.nextChange(0, moment);
      Checks.due("a change", change, each);
      moment = each;
    }
    Checks.due("no more changes", x.nextChange(0, moment), -1);
  }

  private static void mostPlaces() {
    ZoneCalendar x = new ZoneCalendar();
    for (int k = 0; k < 6; k++) {
      int next = k;
      Checks.noIndex(() -> x.localAt(next, 0));
      Checks.due(x.addPlace(k), k);
      Checks.due(x.localAt(k, 0), k);
    }
    Checks.noState(() -> x.addPlace(0));
    Checks.noIndex(() -> x.localAt(6, 0));
    // A wrong base is named first.
    Checks.noArgument(() -> x.addPlace(-841));
    Checks.noArgument(() -> x.addPlace(841));
    Checks.due(x.localAt(5, 0), 5);
  }

  private static void bases() {
    Checks.due(place(-840).localAt(0, 1000), 160);
    Checks.due(place(840).localAt(0, 1000), 1840);
    Checks.due(place(0).localAt(0, 1000), 1000);
    ZoneCalendar x = new ZoneCalendar();
    for (int base : new int[] {-841, 841, Integer.MIN_VALUE, Integer.MAX_VALUE}) {
      Checks.noArgument(() -> x.addPlace(base));
    }
    Checks.noIndex(() -> x.localAt(0, 0));
  }

  private static void turnWithoutPlace() {
    ZoneCalendar x = place(0);
    for (int none : NO_PLACES) {
      Checks.noIndex(() -> x.addTurn(none, 1900, 1900, 0, 0, 0, 0));
    }
    for (int none : new int[] {-1, 6, 23, 24, Integer.MIN_VALUE, Integer.MAX_VALUE}) {
      Checks.noIndex(() -> x.addTurn(0, 1900, 1900, none, 0, 0, 0));
    }
    Checks.due(x.addTurn(0, 1900, 1900, 0, 0, 0, 0), 0);
    Checks.due(x.addTurn(0, 1900, 1900, EASTER, 0, 0, 0), 1);
  }

  private static void firstYears() {
    ZoneCalendar x = place(0);
    for (int year : new int[] {1899, 2100, Integer.MIN_VALUE, Integer.MAX_VALUE}) {
      Checks.noArgument(() -> x.addTurn(0, year, 2099, JULY_1ST, 0, NONE, 60));
      Checks.noArgument(() -> x.addTurn(0, year, year, JULY_1ST, 0, NONE, 60));
    }
    Checks.due(x.addTurn(0, 2099, 2099, JULY_1ST, 0, NONE, 60), 0);
    changesAre(x, at(2099, 7, 1, 0));
    Checks.due(x.addTurn(0, 1900, 1900, JULY_1ST, 0, NONE, 30), 1);
    changesAre(x, at(1900, 7, 1, 0), at(2099, 7, 1, 0));
  }

  private static void lastYears() {
    ZoneCalendar x = place(0);
    Checks.noArgument(() -> x.addTurn(0, 1950, 1949, JULY_1ST, 0, NONE, 60));
    Checks.noArgument(() -> x.addTurn(0, 2099, 2098, JULY_1ST, 0, NONE, 60));
    for (int year : new int[] {1899, 2100, Integer.MIN_VALUE, Integer.MAX_VALUE}) {
      Checks.noArgument(() -> x.addTurn(0, 1900, year, JULY_1ST, 0, NONE, 60));
    }
    Checks.due(x.addTurn(0, 1950, 1950, JULY_1ST, 0, NONE, 60), 0);
    changesAre(x, at(1950, 7, 1, 0));
    Checks.due(x.addTurn(0, 2099, 2099, JULY_1ST, 0, NONE, 30), 1);
    changesAre(x, at(1950, 7, 1, 0), at(2099, 7, 1, 0));
  }

  private static void minutes() {
    for (int minute : new int[] {0, 1439}) {
      ZoneCalendar x = place(0);
      turn(x, 2000, JULY_1ST, minute, NONE, 60);
      changesAre(x, at(2000, 7, 1, minute));
    }
    ZoneCalendar x = place(0);
    for (int minute : new int[] {-1, 1440, Integer.MIN_VALUE, Integer.MAX_VALUE}) {
      Checks.noArgument(() -> x.addTurn(0, 2000, 2000, JULY_1ST, minute, NONE, 60));
    }
    changesAre(x);
  }

  private static void clocks() {
    ZoneCalendar x = place(100);
    for (int clock : new int[] {-1, 3, Integer.MIN_VALUE, Integer.MAX_VALUE}) {
      Checks.noArgument(() -> x.addTurn(0, 2000, 2000, JULY_1ST, 0, clock, 60));
    }
    changesAre(x);
    turn(x, 1999, JULY_1ST, 0, NONE, 30);
    turn(x, 2000, JULY_1ST, 0, OWN, 60);
    turn(x, 2001, JULY_1ST, 0, BASE, 90);
    changesAre(x, at(1999, 7, 1, 0), at(2000, 7, 1, 0) - 130, at(2001, 7, 1, 0) - 100);
  }

  private static void savings() {
    ZoneCalendar x = place(0);
    for (int saving : new int[] {-1, 181, Integer.MIN_VALUE, Integer.MAX_VALUE}) {
      Checks.noArgument(() -> x.addTurn(0, 2000, 2000, JULY_1ST, 0, NONE, saving));
    }
    changesAre(x);
    turn(x, 2000, JULY_1ST, 0, NONE, 180);
    Checks.due(x.savingAt(0, at(2000, 7, 1, 0)), 180);
    turn(x, 2001, JULY_1ST, 0, NONE, 0);
    Checks.due(x.savingAt(0, at(2001, 7, 1, 0)), 0);
    Checks.due(x.savingAt(0, at(2001, 6, 30, 1439)), 180);
  }

  private static void patternsOfTurns() {
    for (int kind = 0; kind <= 15; kind++) {
      ZoneCalendar x = place(0);
      int everyMonth = x.addPattern(0, kind, 1);
      Checks.noArgument(() -> x.addTurn(0, 2000, 2000, everyMonth, 0, NONE, 60));
      for (int month : new int[] {1, 12}) {
        int pattern = x.addPattern(month, kind, 1);
        x.addTurn(0, 2000, 2000, pattern, 0, NONE, month);
        int told = x.nextTold(pattern, SlowCalendar.day(2000, 1, 1));
        Checks.due(x.savingAt(0, 1440 * told), month);
      }
    }
    // Easter of 2000 is April 23rd.
    ZoneCalendar x = place(0);
    turn(x, 2000, EASTER, 0, NONE, 60);
    changesAre(x, at(2000, 4, 23, 0));
  }

  private static void mostTurns() {
    ZoneCalendar x = place(0);
    x.addPlace(0);
    for (int k = 0; k < 6; k++) {
      Checks.due(x.addTurn(0, 2000 + k, 2000 + k, JULY_1ST, 0, NONE, 10 + k), k);
    }
    Checks.noState(() -> x.addTurn(0, 1999, 1999, JULY_1ST, 0, NONE, 60));
    Checks.noState(() -> x.addTurn(0, 2000, 2000, JULY_1ST, 0, NONE, 10));
    changesAre(x, at(2000, 7, 1, 0), at(2001, 7, 1, 0), at(2002, 7, 1, 0), at(2003, 7, 1, 0), at(2004, 7, 1, 0),
        at(2005, 7, 1, 0));
    // Each place has its own.
    Checks.due(x.nextChange(1, 0), -1);
    Checks.due(x.addTurn(1, 1999, 1999, JULY_1ST, 0, NONE, 60), 0);
  }

  private static void firstNamed() {
    ZoneCalendar x = place(0);
    Checks.noIndex(() -> x.addTurn(1, 1899, 2100, 0, -1, 3, 181));
    Checks.noIndex(() -> x.addTurn(0, 1899, 2100, 6, -1, 3, 181));
    Checks.noArgument(() -> x.addTurn(0, 1899, 2100, 0, -1, 3, 181));
    for (int k = 0; k < 6; k++) {
      x.addTurn(0, 2000, 2000, JULY_1ST, 0, NONE, 60);
    }
    Checks.noIndex(() -> x.addTurn(1, 2000, 2000, JULY_1ST, 0, NONE, 60));
    Checks.noIndex(() -> x.addTurn(0, 2000, 2000, 6, 0, NONE, 60));
    Checks.noArgument(() -> x.addTurn(0, 1899, 2000, JULY_1ST, 0, NONE, 60));
    Checks.noArgument(() -> x.addTurn(0, 2000, 1999, JULY_1ST, 0, NONE, 60));
    Checks.noArgument(() -> x.addTurn(0, 2000, 2000, JULY_1ST, 1440, NONE, 60));
    Checks.noArgument(() -> x.addTurn(0, 2000, 2000, JULY_1ST, 0, 3, 60));
    Checks.noArgument(() -> x.addTurn(0, 2000, 2000, JULY_1ST, 0, NONE, 181));
    Checks.noArgument(() -> x.addTurn(0, 2000, 2000, EACH_1ST, 0, NONE, 60));
    Checks.noState(() -> x.addTurn(0, 2000, 2000, JULY_1ST, 0, NONE, 60));
  }

  private static void yearsOfTurn() {
    ZoneCalendar x = place(0);
    x.addTurn(0, 1950, 1952, JANUARY_1ST, 0, NONE, 60);
    x.addTurn(0, 1900, 2099, JULY_1ST, 0, NONE, 0);
    changesAre(x, at(1950, 1, 1, 0), at(1950, 7, 1, 0), at(1951, 1, 1, 0), at(1951, 7, 1, 0), at(1952, 1, 1, 0),
        at(1952, 7, 1, 0));
    ZoneCalendar all = place(0);
    all.addTurn(0, 1900, 2099, JULY_1ST, 0, NONE, 60);
    all.addTurn(0, 1900, 2099, DECEMBER_31ST, 0, NONE, 0);
    int moment = 0;
    for (int year = 1900; year <= 2099; year++) {
      Checks.due(all.nextChange(0, moment), at(year, 7, 1, 0));
      moment = at(year, 12, 31, 0);
      Checks.due(all.nextChange(0, at(year, 7, 1, 0)), moment);
    }
    Checks.due(all.nextChange(0, moment), -1);
  }

  private static void yearsWithout() {
    ZoneCalendar leap = place(0);
    leap.addTurn(0, 1900, 1911, LEAP_DAY, 0, NONE, 60);
    leap.addTurn(0, 1900, 2099, JULY_1ST, 0, NONE, 0);
    changesAre(leap, at(1904, 2, 29, 0), at(1904, 7, 1, 0), at(1908, 2, 29, 0), at(1908, 7, 1, 0));
    // 82 days ahead of Easter is a day of the year but in 1913.
    ZoneCalendar early = place(0);
    int ahead = early.addPattern(0, 16, 18);
    early.addTurn(0, 1912, 1914, ahead, 0, NONE, 60);
    early.addTurn(0, 1900, 2099, JULY_1ST, 0, NONE, 0);
    changesAre(early, at(1912, 1, 16, 0), at(1912, 7, 1, 0), at(1914, 1, 20, 0), at(1914, 7, 1, 0));
    // February has a fifth Sunday in 1976 and 2004.
    ZoneCalendar fifth = place(0);
    int sunday = fifth.addPattern(2, 8, 5);
    fifth.addTurn(0, 1970, 2010, sunday, 0, NONE, 60);
    fifth.addTurn(0, 1900, 2099, JULY_1ST, 0, NONE, 0);
    changesAre(fifth, at(1976, 2, 29, 0), at(1976, 7, 1, 0), at(2004, 2, 29, 0), at(2004, 7, 1, 0));
    // In 1913 and 1999 alone there is none, though in the January behind it there would be one.
    ZoneCalendar alone = place(0);
    alone.addTurn(0, 1913, 1913, alone.addPattern(0, 16, 18), 0, NONE, 60);
    changesAre(alone);
    // January has a fifth Monday in 2000, not in 1999.
    ZoneCalendar monday = place(0);
    monday.addTurn(0, 1999, 1999, monday.addPattern(1, 2, 5), 0, NONE, 60);
    changesAre(monday);
    monday.addTurn(0, 2000, 2000, 6, 0, NONE, 60);
    changesAre(monday, at(2000, 1, 31, 0));
    // A pattern that never tells a day.
    ZoneCalendar never = place(0);
    never.addTurn(0, 1900, 2099, never.addPattern(4, 0, 31), 0, NONE, 60);
    changesAre(never);
  }

  private static void aheadOfAll() {
    ZoneCalendar x = place(30);
    Checks.due(x.savingAt(0, 0), 0);
    Checks.due(x.savingAt(0, LAST_MOMENT), 0);
    turn(x, 1900, JULY_1ST, 0, NONE, 60);
    Checks.due(x.savingAt(0, 0), 0);
    Checks.due(x.savingAt(0, at(1900, 6, 30, 1439)), 0);
    Checks.due(x.localAt(0, at(1900, 6, 30, 1439)), at(1900, 7, 1, 29));
    // The own clock of the first turn is that of the base.
    ZoneCalendar own = place(30);
    turn(own, 1900, JULY_1ST, 40, OWN, 60);
    changesAre(own, at(1900, 7, 1, 10));
  }

  private static void lastingSaving() {
    ZoneCalendar x = place(0);
    turn(x, 1950, JULY_1ST, 0, NONE, 60);
    turn(x, 2099, DECEMBER_31ST, 1439, NONE, 30);
    Checks.due(x.savingAt(0, at(1950, 7, 1, 0)), 60);
    Checks.due(x.savingAt(0, LAST_MOMENT - 1), 60);
    Checks.due(x.savingAt(0, LAST_MOMENT), 30);
    ZoneCalendar first = place(0);
    turn(first, 1900, JANUARY_1ST, 0, NONE, 60);
    Checks.due(first.savingAt(0, 0), 60);
    Checks.due(first.savingAt(0, LAST_MOMENT), 60);
  }

  private static void orderAsTold() {
    // By their MOMENTS the second one would be first: 0:30 less 200 of the base; it is told later, and counts.
    ZoneCalendar x = place(200);
    turn(x, 2000, JULY_1ST, 30, BASE, 20);
    turn(x, 2000, JULY_1ST, 29, NONE, 10);
    changesAre(x, at(2000, 7, 1, 29));
    Checks.due(x.savingAt(0, at(2000, 7, 1, 29)), 20);
    // Told on the DAY ahead, at its last minute, is ahead of the first minute of a DAY.
    ZoneCalendar days = place(-200);
    int eve = days.addPattern(6, 0, 30);
    turn(days, 2000, JULY_1ST, 0, NONE, 20);
    turn(days, 2000, eve, 1439, BASE, 10);
    changesAre(days, at(2000, 7, 1, 199));
    Checks.due(days.savingAt(0, at(2000, 7, 1, 198)), 0);
    Checks.due(days.savingAt(0, at(2000, 7, 1, 199)), 20);
    // A greater number, told earlier, is first.
    ZoneCalendar greater = place(0);
    turn(greater, 2000, JULY_1ST, 1, NONE, 20);
    turn(greater, 2000, JULY_1ST, 0, NONE, 10);
    changesAre(greater, at(2000, 7, 1, 0), at(2000, 7, 1, 1));
    Checks.due(greater.savingAt(0, at(2000, 7, 1, 0)), 10);
    Checks.due(greater.savingAt(0, at(2000, 7, 1, 1)), 20);
  }

  private static void orderByNumber() {
    ZoneCalendar x = place(0);
    for (int k = 0; k < 6; k++) {
      turn(x, 2000, JULY_1ST, 100, NONE, 10 * k + 5);
      Checks.due(x.savingAt(0, at(2000, 7, 1, 99)), 0);
      Checks.due(x.savingAt(0, at(2000, 7, 1, 100)), 10 * k + 5);
    }
    changesAre(x, at(2000, 7, 1, 100));
    // Of two that are told at once by other clocks the second one is put off to the first one, or is later.
    ZoneCalendar early = place(60);
    turn(early, 2000, JULY_1ST, 100, NONE, 10);
    turn(early, 2000, JULY_1ST, 100, BASE, 20);
    changesAre(early, at(2000, 7, 1, 100));
    Checks.due(early.savingAt(0, at(2000, 7, 1, 100)), 20);
    ZoneCalendar late = place(60);
    turn(late, 2000, JULY_1ST, 100, BASE, 10);
    turn(late, 2000, JULY_1ST, 100, NONE, 20);
    changesAre(late, at(2000, 7, 1, 40), at(2000, 7, 1, 100));
  }

  private static void momentOfTurn() {
    for (int base : new int[] {-840, 0, 840}) {
      ZoneCalendar x = place(base);
      turn(x, 1999, JULY_1ST, 700, NONE, 180);
      turn(x, 2000, JULY_1ST, 700, OWN, 100);
      turn(x, 2001, JULY_1ST, 700, BASE, 50);
      turn(x, 2002, JULY_1ST, 700, OWN, 0);
      turn(x, 2003, JULY_1ST, 700, OWN, 30);
      changesAre(x, at(1999, 7, 1, 700), at(2000, 7, 1, 700) - base - 180, at(2001, 7, 1, 700) - base,
          at(2002, 7, 1, 700) - base - 50, at(2003, 7, 1, 700) - base);
    }
  }

  private static void putOff() {
    // By the own clock, put forward by 60 with the first one, 0:159 is 99 less than at 0:100: it is the same MOMENT.
    int[] minutes = {159, 160, 161};
    int[] due = {100, 100, 101};
    for (int k = 0; k < 3; k++) {
      ZoneCalendar x = place(0);
      turn(x, 2000, JULY_1ST, 100, NONE, 60);
      turn(x, 2000, JULY_1ST, minutes[k], OWN, 20);
      Checks.due(x.savingAt(0, at(2000, 7, 1, 99)), 0);
      Checks.due(x.savingAt(0, at(2000, 7, 1, 100)), due[k] == 100 ? 20 : 60);
      Checks.due(x.savingAt(0, at(2000, 7, 1, 101)), 20);
    }
    // A third one goes by the MOMENT to which the second one was put off, not by that which it would have had.
    ZoneCalendar x = place(300);
    turn(x, 2000, JULY_1ST, 400, NONE, 10);
    turn(x, 2000, JULY_1ST, 401, BASE, 20);
    turn(x, 2000, JULY_1ST, 500, BASE, 30);
    changesAre(x, at(2000, 7, 1, 400));
    Checks.due(x.savingAt(0, at(2000, 7, 1, 400)), 30);
  }

  private static void putOffOverYear() {
    ZoneCalendar x = place(840);
    turn(x, 1999, DECEMBER_31ST, 1439, NONE, 10);
    turn(x, 2000, JANUARY_1ST, 838, BASE, 20);
    changesAre(x, at(1999, 12, 31, 1439));
    Checks.due(x.savingAt(0, at(1999, 12, 31, 1439)), 20);
    ZoneCalendar y = place(840);
    turn(y, 1999, DECEMBER_31ST, 1439, NONE, 10);
    turn(y, 2000, JANUARY_1ST, 840, BASE, 20);
    changesAre(y, at(1999, 12, 31, 1439), at(2000, 1, 1, 0));
  }

  private static void turnsAheadOfFirst() {
    // MOMENTS -1, 0 and 1 of a turn.
    for (int minute = 839; minute <= 841; minute++) {
      ZoneCalendar x = place(840);
      turn(x, 1900, JANUARY_1ST, minute, BASE, 60);
      Checks.due(x.savingAt(0, 0), minute <= 840 ? 60 : 0);
      Checks.due(x.savingAt(0, 1), 60);
      Checks.due(x.nextChange(0, 0), minute <= 840 ? -1 : 1);
    }
    // The order and the own clock go on ahead of MOMENT 0: -840, then 100 less 840 less 180, which is put off.
    ZoneCalendar x = place(840);
    turn(x, 1900, JANUARY_1ST, 0, BASE, 180);
    Checks.due(x.localAt(0, 0), 1020);
    turn(x, 1900, JANUARY_1ST, 100, OWN, 30);
    Checks.due(x.localAt(0, 0), 870);
    turn(x, 1900, JANUARY_1ST, 869, OWN, 40);
    Checks.due(x.localAt(0, 0), 880);
    turn(x, 1900, JANUARY_1ST, 881, OWN, 50);
    Checks.due(x.savingAt(0, 0), 40);
    Checks.due(x.savingAt(0, 1), 50);
    changesAre(x, 1);
  }

  private static void turnsBehindLast() {
    // The last MOMENT, and the one behind it.
    ZoneCalendar x = place(-840);
    turn(x, 2099, DECEMBER_31ST, 599, BASE, 60);
    Checks.due(x.savingAt(0, LAST_MOMENT - 1), 0);
    Checks.due(x.savingAt(0, LAST_MOMENT), 60);
    changesAre(x, LAST_MOMENT);
    ZoneCalendar y = place(-840);
    turn(y, 2099, DECEMBER_31ST, 600, BASE, 60);
    turn(y, 2099, DECEMBER_31ST, 1439, BASE, 90);
    Checks.due(y.savingAt(0, LAST_MOMENT), 0);
    changesAre(y);
    // One that is put off behind the last MOMENT does not happen at it either.
    ZoneCalendar z = place(-840);
    turn(z, 2099, DECEMBER_31ST, 600, BASE, 60);
    turn(z, 2099, DECEMBER_31ST, 700, NONE, 90);
    Checks.due(z.savingAt(0, LAST_MOMENT), 0);
    changesAre(z);
  }

  private static void savingFromMoment() {
    ZoneCalendar x = place(60);
    turn(x, 2000, JULY_1ST, 120, BASE, 60);
    Checks.due(x.savingAt(0, at(2000, 7, 1, 59)), 0);
    Checks.due(x.savingAt(0, at(2000, 7, 1, 60)), 60);
    Checks.due(x.localAt(0, at(2000, 7, 1, 59)), at(2000, 7, 1, 119));
    Checks.due(x.localAt(0, at(2000, 7, 1, 60)), at(2000, 7, 1, 180));
    // Over the end of a DAY and of a year: 23:30 by the base is 0:30 of the next year.
    ZoneCalendar y = place(-60);
    turn(y, 1999, DECEMBER_31ST, 1410, BASE, 60);
    changesAre(y, at(2000, 1, 1, 30));
    ZoneCalendar z = place(60);
    turn(z, 2000, JANUARY_1ST, 30, BASE, 60);
    changesAre(z, at(1999, 12, 31, 1410));
  }

  private static void lastOfSeveral() {
    ZoneCalendar x = place(0);
    turn(x, 2000, JULY_1ST, 100, NONE, 180);
    turn(x, 2000, JULY_1ST, 100, NONE, 60);
    turn(x, 2000, JULY_1ST, 100, NONE, 90);
    Checks.due(x.savingAt(0, at(2000, 7, 1, 99)), 0);
    Checks.due(x.savingAt(0, at(2000, 7, 1, 100)), 90);
    Checks.due(x.showsOften(0, at(2000, 7, 1, 190)), 1);
    // At MOMENT 0, and at the last one.
    ZoneCalendar first = place(0);
    turn(first, 1900, JANUARY_1ST, 0, NONE, 60);
    turn(first, 1900, JANUARY_1ST, 0, NONE, 0);
    Checks.due(first.savingAt(0, 0), 0);
    ZoneCalendar last = place(0);
    turn(last, 2099, DECEMBER_31ST, 1439, NONE, 60);
    turn(last, 2099, DECEMBER_31ST, 1439, NONE, 30);
    Checks.due(last.savingAt(0, LAST_MOMENT), 30);
  }

  private static void savingRefused() {
    ZoneCalendar x = place(0);
    for (int none : NO_MOMENTS) {
      Checks.noIndex(() -> x.savingAt(0, none));
    }
    for (int none : NO_PLACES) {
      Checks.noIndex(() -> x.savingAt(none, 0));
      Checks.noIndex(() -> x.savingAt(none, -1));
    }
    Checks.due(x.savingAt(0, LAST_MOMENT), 0);
  }

  private static void localOutside() {
    Checks.due(place(-840).localAt(0, 0), -840);
    Checks.due(place(-840).localAt(0, 839), -1);
    Checks.due(place(-840).localAt(0, 840), 0);
    Checks.due(place(840).localAt(0, LAST_MOMENT), LAST_MOMENT + 840);
    Checks.due(place(840).localAt(0, LAST_MOMENT - 840), LAST_MOMENT);
    ZoneCalendar x = place(840);
    turn(x, 2099, DECEMBER_31ST, 1439, NONE, 180);
    Checks.due(x.localAt(0, LAST_MOMENT), LAST_MOMENT + 1020);
    Checks.due(x.localAt(0, LAST_MOMENT - 1), LAST_MOMENT + 839);
  }

  private static void localRefused() {
    ZoneCalendar x = place(0);
    for (int none : NO_MOMENTS) {
      Checks.noIndex(() -> x.localAt(0, none));
    }
    for (int none : NO_PLACES) {
      Checks.noIndex(() -> x.localAt(none, 0));
    }
  }

  private static void changeBehind() {
    ZoneCalendar x = place(0);
    turn(x, 2000, JULY_1ST, 0, NONE, 60);
    turn(x, 2000, JULY_1ST, 1, NONE, 0);
    int first = at(2000, 7, 1, 0);
    Checks.due(x.nextChange(0, first - 2), first);
    Checks.due(x.nextChange(0, first - 1), first);
    Checks.due(x.nextChange(0, first), first + 1);
    Checks.due(x.nextChange(0, first + 1), -1);
  }

  private static void changeOfSaving() {
    // To the same saving is no change, nor is one that lasts no minute.
    ZoneCalendar x = place(0);
    x.addTurn(0, 1950, 1960, JULY_1ST, 0, NONE, 60);
    x.addTurn(0, 1955, 1955, DECEMBER_31ST, 0, NONE, 0);
    x.addTurn(0, 1955, 1955, DECEMBER_31ST, 0, NONE, 60);
    x.addTurn(0, 1970, 1970, DECEMBER_31ST, 0, NONE, 61);
    changesAre(x, at(1950, 7, 1, 0), at(1970, 12, 31, 0));
    // From 0 to 0.
    ZoneCalendar zero = place(0);
    zero.addTurn(0, 1950, 1960, JULY_1ST, 0, NONE, 0);
    changesAre(zero);
  }

  private static void changeAtEnds() {
    ZoneCalendar x = place(0);
    turn(x, 1900, JANUARY_1ST, 0, NONE, 60);
    Checks.due(x.nextChange(0, 0), -1);
    turn(x, 1900, JANUARY_1ST, 1, NONE, 30);
    Checks.due(x.nextChange(0, 0), 1);
    Checks.due(x.nextChange(0, 1), -1);
    turn(x, 2099, DECEMBER_31ST, 1439, NONE, 60);
    Checks.due(x.nextChange(0, 1), LAST_MOMENT);
    Checks.due(x.nextChange(0, LAST_MOMENT - 1), LAST_MOMENT);
    Checks.due(x.nextChange(0, LAST_MOMENT), -1);
  }

  private static void changeRefused() {
    ZoneCalendar x = place(0);
    for (int none : NO_MOMENTS) {
      Checks.noIndex(() -> x.nextChange(0, none));
    }
    for (int none : NO_PLACES) {
      Checks.noIndex(() -> x.nextChange(none, 0));
    }
  }

  /** Place 0 is put forward by so much on July 1st, 2000, at 10:00, and back on December 31st at 10:00. */
  private static ZoneCalendar forthAndBack(int saving) {
    ZoneCalendar x = place(0);
    turn(x, 2000, JULY_1ST, 600, NONE, saving);
    turn(x, 2000, DECEMBER_31ST, 600, NONE, 0);
    return x;
  }

  private static void oftenAtTurns() {
    int forth = at(2000, 7, 1, 600);
    int back = at(2000, 12, 31, 600);
    for (int saving : new int[] {1, 2, 60, 180}) {
      ZoneCalendar x = forthAndBack(saving);
      Checks.due(x.showsOften(0, forth - 1), 1);
      Checks.due(x.showsOften(0, forth), 0);
      Checks.due(x.showsOften(0, forth + saving - 1), 0);
      Checks.due(x.showsOften(0, forth + saving), 1);
      Checks.due(x.showsOften(0, back - 1), 1);
      Checks.due(x.showsOften(0, back), 2);
      Checks.due(x.showsOften(0, back + saving - 1), 2);
      Checks.due(x.showsOften(0, back + saving), 1);
    }
  }

  private static void oftenFarOff() {
    int forth = at(2000, 7, 1, 600);
    int back = at(2000, 12, 31, 600);
    for (int base : new int[] {-840, -181, 181, 840}) {
      ZoneCalendar x = place(base);
      turn(x, 2000, JULY_1ST, 600, NONE, 180);
      turn(x, 2000, DECEMBER_31ST, 600, NONE, 0);
      Checks.due(x.showsOften(0, forth + base - 1), 1);
      Checks.due(x.showsOften(0, forth + base), 0);
      Checks.due(x.showsOften(0, forth + base + 179), 0);
      Checks.due(x.showsOften(0, forth + base + 180), 1);
      Checks.due(x.momentOf(0, forth + base), forth);
      Checks.due(x.momentOf(0, forth + base + 179), forth);
      Checks.due(x.momentOf(0, forth + base + 181), forth + 1);
      Checks.due(x.lastMomentOf(0, forth + base - 1), forth - 1);
      Checks.due(x.lastMomentOf(0, forth + base), -1);
      Checks.due(x.showsOften(0, back + base - 1), 1);
      Checks.due(x.showsOften(0, back + base), 2);
      Checks.due(x.showsOften(0, back + base + 179), 2);
      Checks.due(x.showsOften(0, back + base + 180), 1);
      Checks.due(x.momentOf(0, back + base), back - 180);
      Checks.due(x.momentOf(0, back + base + 179), back - 1);
      Checks.due(x.lastMomentOf(0, back + base), back);
      Checks.due(x.lastMomentOf(0, back + base + 179), back + 179);
    }
  }

  private static void oftenMore() {
    // A saving of 180 from minute 0 on, and 30 less behind each 30 minutes: each time minutes 180 to 209 are shown.
    ZoneCalendar x = place(0);
    int day = at(2000, 7, 1, 0);
    for (int k = 0; k < 6; k++) {
      turn(x, 2000, JULY_1ST, 30 * k, NONE, 180 - 30 * k);
    }
    Checks.due(x.showsOften(0, day + 179), 0);
    Checks.due(x.showsOften(0, day + 180), 6);
    Checks.due(x.showsOften(0, day + 209), 6);
    Checks.due(x.showsOften(0, day + 210), 1);
    Checks.due(x.momentOf(0, day + 180), day);
    Checks.due(x.lastMomentOf(0, day + 180), day + 150);
    Checks.due(x.lastMomentOf(0, day + 209), day + 179);
    Checks.due(x.showsOften(0, day), 0);
    Checks.due(x.momentOf(0, day), day);
  }

  private static void oftenAtEnds() {
    ZoneCalendar x = place(0);
    Checks.due(x.showsOften(0, 0), 1);
    Checks.due(x.showsOften(0, -1), 0);
    Checks.due(x.showsOften(0, LAST_MOMENT), 1);
    Checks.due(x.showsOften(0, LAST_MOMENT + 1), 0);
    Checks.due(x.showsOften(0, Integer.MIN_VALUE), 0);
    Checks.due(x.showsOften(0, Integer.MAX_VALUE), 0);
    for (int base : new int[] {-840, 840}) {
      ZoneCalendar y = place(base);
      Checks.due(y.showsOften(0, base - 1), 0);
      Checks.due(y.showsOften(0, base), 1);
      Checks.due(y.showsOften(0, LAST_MOMENT + base), 1);
      Checks.due(y.showsOften(0, LAST_MOMENT + base + 1), 0);
      Checks.due(y.showsOften(0, Integer.MIN_VALUE), 0);
      Checks.due(y.showsOften(0, Integer.MAX_VALUE), 0);
    }
    // Put back at MOMENT 0 the clock shows nothing twice, for it showed nothing ahead of that; at MOMENT 1 it does.
    ZoneCalendar back = place(0);
    turn(back, 1900, JANUARY_1ST, 0, NONE, 60);
    turn(back, 1900, JANUARY_1ST, 1, NONE, 0);
    Checks.due(back.showsOften(0, 0), 0);
    Checks.due(back.showsOften(0, 1), 1);
    Checks.due(back.showsOften(0, 59), 1);
    Checks.due(back.showsOften(0, 60), 2);
    Checks.due(back.showsOften(0, 61), 1);
    ZoneCalendar last = place(0);
    turn(last, 1900, JANUARY_1ST, 0, NONE, 60);
    turn(last, 2099, DECEMBER_31ST, 1439, NONE, 0);
    Checks.due(last.showsOften(0, LAST_MOMENT), 2);
    Checks.due(last.showsOften(0, LAST_MOMENT + 1), 1);
    Checks.due(last.showsOften(0, LAST_MOMENT + 59), 1);
    Checks.due(last.showsOften(0, LAST_MOMENT + 60), 0);
  }

  private static void momentFirst() {
    int back = at(2000, 12, 31, 600);
    for (int saving : new int[] {1, 60, 180}) {
      ZoneCalendar x = forthAndBack(saving);
      Checks.due(x.momentOf(0, back - 1), back - 1 - saving);
      Checks.due(x.momentOf(0, back), back - saving);
      Checks.due(x.momentOf(0, back + saving - 1), back - 1);
      Checks.due(x.momentOf(0, back + saving), back + saving);
    }
    ZoneCalendar plain = place(-840);
    Checks.due(plain.momentOf(0, -840), 0);
    Checks.due(plain.momentOf(0, LAST_MOMENT - 840), LAST_MOMENT);
  }

  private static void momentPassing() {
    int forth = at(2000, 7, 1, 600);
    for (int saving : new int[] {1, 2, 60, 180}) {
      ZoneCalendar x = forthAndBack(saving);
      Checks.due(x.momentOf(0, forth - 1), forth - 1);
      Checks.due(x.momentOf(0, forth), forth);
      Checks.due(x.momentOf(0, forth + saving - 1), forth);
      Checks.due(x.momentOf(0, forth + saving), forth);
      Checks.due(x.momentOf(0, forth + saving + 1), forth + 1);
    }
    // Not from 0, but from one saving to another, at a place with a base.
    ZoneCalendar x = place(-300);
    turn(x, 1999, JULY_1ST, 0, NONE, 100);
    turn(x, 2000, JULY_1ST, 600, NONE, 180);
    Checks.due(x.momentOf(0, forth - 201), forth - 1);
    Checks.due(x.momentOf(0, forth - 200), forth);
    Checks.due(x.momentOf(0, forth - 121), forth);
    Checks.due(x.momentOf(0, forth - 120), forth);
    Checks.due(x.momentOf(0, forth - 119), forth + 1);
  }

  private static void momentPassedTwice() {
    // Forth by 120 at minute 600, back at 601, and forth once more at 602: 602 is passed with 600 and with 602.
    ZoneCalendar x = place(0);
    int forth = at(2000, 7, 1, 600);
    turn(x, 2000, JULY_1ST, 600, NONE, 120);
    turn(x, 2000, JULY_1ST, 601, NONE, 0);
    turn(x, 2000, JULY_1ST, 602, NONE, 120);
    Checks.due(x.showsOften(0, forth + 2), 0);
    Checks.due(x.momentOf(0, forth + 2), forth);
    Checks.due(x.momentOf(0, forth + 119), forth);
    Checks.due(x.momentOf(0, forth), forth);
    Checks.due(x.showsOften(0, forth + 1), 1);
    Checks.due(x.momentOf(0, forth + 1), forth + 1);
    // Passed with the second one alone.
    Checks.due(x.showsOften(0, forth + 121), 0);
    Checks.due(x.momentOf(0, forth + 121), forth + 2);
  }

  private static void momentShownAndPassed() {
    // Forth by 120 at minute 600, back at 610: minute 615 is passed with 600, and shown at 615.
    ZoneCalendar x = place(0);
    int forth = at(2000, 7, 1, 600);
    turn(x, 2000, JULY_1ST, 600, NONE, 120);
    turn(x, 2000, JULY_1ST, 610, NONE, 0);
    Checks.due(x.showsOften(0, forth + 15), 1);
    Checks.due(x.momentOf(0, forth + 15), forth + 15);
    Checks.due(x.momentOf(0, forth + 10), forth + 10);
    Checks.due(x.momentOf(0, forth + 9), forth);
    Checks.due(x.momentOf(0, forth + 125), forth + 5);
    Checks.due(x.lastMomentOf(0, forth + 125), forth + 125);
  }

  private static void momentPassedAtEnds() {
    ZoneCalendar first = place(0);
    turn(first, 1900, JANUARY_1ST, 0, NONE, 60);
    Checks.due(first.momentOf(0, 0), -1);
    Checks.due(first.momentOf(0, 59), -1);
    Checks.due(first.momentOf(0, 60), 0);
    ZoneCalendar second = place(0);
    turn(second, 1900, JANUARY_1ST, 1, NONE, 60);
    Checks.due(second.momentOf(0, -1), -1);
    Checks.due(second.momentOf(0, 0), 0);
    Checks.due(second.momentOf(0, 1), 1);
    Checks.due(second.momentOf(0, 60), 1);
    Checks.due(second.momentOf(0, 61), 1);
    Checks.due(second.momentOf(0, 62), 2);
    // Put forward ahead of MOMENT 0, back at it, and forward at MOMENT 1: this one alone counts.
    ZoneCalendar ahead = place(1);
    turn(ahead, 1900, JANUARY_1ST, 0, BASE, 60);
    turn(ahead, 1900, JANUARY_1ST, 1, BASE, 0);
    turn(ahead, 1900, JANUARY_1ST, 2, BASE, 60);
    Checks.due(ahead.momentOf(0, 0), -1);
    Checks.due(ahead.momentOf(0, 1), 0);
    Checks.due(ahead.momentOf(0, 2), 1);
    Checks.due(ahead.momentOf(0, 30), 1);
    Checks.due(ahead.momentOf(0, 62), 1);
    Checks.due(ahead.momentOf(0, 63), 2);
    // 180 from MOMENT 0 on, 170 from 10 on, 0 from 20 on, 120 from 30 on: LOCAL 100 is passed with MOMENT 30 alone, for
    // at MOMENT 9 the clock shows a later time, not an earlier one.
    ZoneCalendar back = place(0);
    int[] savings = {180, 170, 0, 120};
    for (int k = 0; k < 4; k++) {
      turn(back, 1900, JANUARY_1ST, 10 * k, NONE, savings[k]);
    }
    Checks.due(back.showsOften(0, 100), 0);
    Checks.due(back.momentOf(0, 100), 30);
    Checks.due(back.momentOf(0, 29), 29);
    Checks.due(back.momentOf(0, 30), 30);
    Checks.due(back.momentOf(0, 19), -1);
    Checks.due(back.momentOf(0, 179), 59);
    // 180 from MOMENT 0 on, 100 from 10 on, 120 from 50 on: from the first MOMENT on the clock shows later times alone.
    ZoneCalendar later = place(0);
    turn(later, 1900, JANUARY_1ST, 0, NONE, 180);
    turn(later, 1900, JANUARY_1ST, 10, NONE, 100);
    turn(later, 1900, JANUARY_1ST, 50, NONE, 120);
    Checks.due(later.momentOf(0, 105), -1);
    Checks.due(later.momentOf(0, 109), -1);
    Checks.due(later.momentOf(0, 110), 10);
    ZoneCalendar last = place(0);
    turn(last, 2099, DECEMBER_31ST, 1439, NONE, 60);
    Checks.due(last.momentOf(0, LAST_MOMENT - 1), LAST_MOMENT - 1);
    Checks.due(last.momentOf(0, LAST_MOMENT), LAST_MOMENT);
    Checks.due(last.momentOf(0, LAST_MOMENT + 59), LAST_MOMENT);
    Checks.due(last.momentOf(0, LAST_MOMENT + 60), LAST_MOMENT);
    Checks.due(last.momentOf(0, LAST_MOMENT + 61), -1);
    // What would be passed behind the last MOMENT is not.
    ZoneCalendar behind = place(-1);
    turn(behind, 2099, DECEMBER_31ST, 1439, BASE, 60);
    Checks.due(behind.momentOf(0, LAST_MOMENT - 1), LAST_MOMENT);
    Checks.due(behind.momentOf(0, LAST_MOMENT), -1);
  }

  private static void momentWithout() {
    ZoneCalendar x = place(840);
    Checks.due(x.momentOf(0, 839), -1);
    Checks.due(x.momentOf(0, 840), 0);
    Checks.due(x.momentOf(0, -1), -1);
    Checks.due(x.momentOf(0, LAST_MOMENT + 840), LAST_MOMENT);
    Checks.due(x.momentOf(0, LAST_MOMENT + 841), -1);
    Checks.due(x.momentOf(0, Integer.MIN_VALUE), -1);
    Checks.due(x.momentOf(0, Integer.MAX_VALUE), -1);
    ZoneCalendar west = place(-840);
    Checks.due(west.momentOf(0, -841), -1);
    Checks.due(west.momentOf(0, LAST_MOMENT - 839), -1);
    Checks.due(west.momentOf(0, Integer.MIN_VALUE), -1);
    Checks.due(west.momentOf(0, Integer.MAX_VALUE), -1);
  }

  private static void lastMoment() {
    int back = at(2000, 12, 31, 600);
    for (int saving : new int[] {1, 60, 180}) {
      ZoneCalendar x = forthAndBack(saving);
      Checks.due(x.lastMomentOf(0, back - 1), back - 1 - saving);
      Checks.due(x.lastMomentOf(0, back), back);
      Checks.due(x.lastMomentOf(0, back + saving - 1), back + saving - 1);
      Checks.due(x.lastMomentOf(0, back + saving), back + saving);
    }
    ZoneCalendar plain = place(840);
    Checks.due(plain.lastMomentOf(0, 840), 0);
    Checks.due(plain.lastMomentOf(0, LAST_MOMENT + 840), LAST_MOMENT);
  }

  private static void lastMomentWithout() {
    int forth = at(2000, 7, 1, 600);
    ZoneCalendar x = forthAndBack(60);
    Checks.due(x.lastMomentOf(0, forth - 1), forth - 1);
    Checks.due(x.lastMomentOf(0, forth), -1);
    Checks.due(x.lastMomentOf(0, forth + 59), -1);
    Checks.due(x.lastMomentOf(0, forth + 60), forth);
    Checks.due(x.lastMomentOf(0, -1), -1);
    Checks.due(x.lastMomentOf(0, 0), 0);
    Checks.due(x.lastMomentOf(0, LAST_MOMENT), LAST_MOMENT);
    Checks.due(x.lastMomentOf(0, LAST_MOMENT + 1), -1);
    Checks.due(x.lastMomentOf(0, Integer.MIN_VALUE), -1);
    Checks.due(x.lastMomentOf(0, Integer.MAX_VALUE), -1);
    Checks.due(place(840).lastMomentOf(0, 839), -1);
    Checks.due(place(-840).lastMomentOf(0, LAST_MOMENT - 839), -1);
  }

  private static void timesRefused() {
    ZoneCalendar x = place(0);
    for (int none : NO_PLACES) {
      for (int local : new int[] {0, Integer.MIN_VALUE, Integer.MAX_VALUE}) {
        Checks.noIndex(() -> x.showsOften(none, local));
        Checks.noIndex(() -> x.momentOf(none, local));
        Checks.noIndex(() -> x.lastMomentOf(none, local));
      }
    }
  }

  private static void aheadFarthest() {
    ZoneCalendar x = place(840);
    x.addPlace(-840);
    turn(x, 2000, JULY_1ST, 0, NONE, 180);
    int forth = at(2000, 7, 1, 0);
    Checks.due(x.ahead(0, 0, forth), 0);
    Checks.due(x.ahead(0, 1, forth - 1), 1680);
    Checks.due(x.ahead(0, 1, forth), 1860);
    Checks.due(x.ahead(1, 0, forth), -1860);
    Checks.due(x.ahead(0, 1, 0), 1680);
    Checks.due(x.ahead(1, 0, LAST_MOMENT), -1860);
  }

  private static void aheadRefused() {
    ZoneCalendar x = place(0);
    for (int none : NO_PLACES) {
      Checks.noIndex(() -> x.ahead(none, 0, 0));
      Checks.noIndex(() -> x.ahead(0, none, 0));
    }
    for (int none : NO_MOMENTS) {
      Checks.noIndex(() -> x.ahead(0, 0, none));
    }
  }
}
