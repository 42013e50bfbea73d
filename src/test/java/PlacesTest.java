/** Promises 15 to 23. */
final class PlacesTest {
  private static final int LAST_MOMENT = 105190559;
  private static final int CLOCK_OWN = 0;
  private static final int CLOCK_BASE = 1;
  private static final int CLOCK_NONE = 2;

  private PlacesTest() {
  }

  static void run() {
    Checks.test("promise 15: addPlace", PlacesTest::addPlace);
    Checks.test("promise 16: addTurn", PlacesTest::addTurn);
    Checks.test("promise 16: addTurn, wrong inputs", PlacesTest::addWrongTurn);
    Checks.test("promise 17: savingAt", PlacesTest::savingAt);
    Checks.test("promise 17: savingAt, by each clock", PlacesTest::savingByClock);
    Checks.test("promise 17: savingAt, the order of turns", PlacesTest::savingInOrder);
    Checks.test("promise 17: savingAt, the ends of time", PlacesTest::savingAtEnds);
    Checks.test("promise 17: savingAt, a full place", PlacesTest::savingOfFullPlace);
    Checks.test("promise 18: localAt", PlacesTest::localAt);
    Checks.test("promise 19: nextChange", PlacesTest::nextChange);
    Checks.test("promise 20: showsOften", PlacesTest::showsOften);
    Checks.test("promise 21: momentOf", PlacesTest::momentOf);
    Checks.test("promise 21: momentOf, the ends of time", PlacesTest::momentAtEnds);
    Checks.test("promise 22: lastMomentOf", PlacesTest::lastMomentOf);
    Checks.test("promise 23: ahead", PlacesTest::ahead);
  }

  private static int moment(int year, int month, int day, int minute) {
    return 1440 * SlowCalendar.day(year, month, day) + minute;
  }

  /** Patterns 0 and 1: the last Sundays of March and October; 2: January 1st; 3: December 31st; 4: each 1st. */
  private static ZoneCalendar patterns() {
    ZoneCalendar x = new ZoneCalendar();
    x.addPattern(3, 15, 1);
    x.addPattern(10, 15, 1);
    x.addPattern(1, 0, 1);
    x.addPattern(12, 0, 31);
    x.addPattern(0, 0, 1);
    return x;
  }

  /** Place 0: an hour ahead of no place, and one more from 1980 on in summer. In 2000: March 26th, October 29th. */
  private static ZoneCalendar summers() {
    ZoneCalendar x = patterns();
    x.addPlace(60);
    x.addTurn(0, 1980, 2099, 0, 60, CLOCK_NONE, 60);
    x.addTurn(0, 1980, 2099, 1, 60, CLOCK_NONE, 0);
    return x;
  }

  private static void addPlace() {
    ZoneCalendar x = new ZoneCalendar();
    for (int base : new int[] {-841, 841, Integer.MIN_VALUE, Integer.MAX_VALUE}) {
      Checks.noArgument(() -> x.addPlace(base));
    }
    int[] bases = {-840, 840, 0, 60, -1, 1};
    for (int k = 0; k < 6; k++) {
      int place = k;
      Checks.noIndex(() -> x.localAt(place, 0));
      Checks.due(x.addPlace(bases[k]), k);
      Checks.due(x.localAt(k, 5000), 5000 + bases[k]);
    }
    Checks.noState(() -> x.addPlace(0));
    Checks.noArgument(() -> x.addPlace(841));
    Checks.noIndex(() -> x.localAt(6, 0));
  }

  private static void addTurn() {
    ZoneCalendar x = patterns();
    x.addPlace(0);
    x.addPlace(0);
    int easter = x.addPattern(0, 16, 100);
    Checks.due(x.addTurn(0, 1900, 2099, 0, 0, 0, 0), 0);
    Checks.due(x.addTurn(0, 2099, 2099, 0, 1439, 2, 180), 1);
    Checks.due(x.addTurn(0, 1900, 1900, easter, 60, 1, 60), 2);
    Checks.due(x.addTurn(1, 1900, 1900, 2, 60, 1, 60), 0);
    for (int k = 3; k < 6; k++) {
      Checks.due(x.addTurn(0, 1950, 1960, 1, 60, 1, 60), k);
    }
    Checks.noState(() -> x.addTurn(0, 1950, 1960, 1, 60, 1, 60));
    Checks.noArgument(() -> x.addTurn(0, 1950, 1960, 4, 60, 1, 60));
    Checks.noArgument(() -> x.addTurn(0, 1950, 1949, 1, 60, 1, 60));
    Checks.noIndex(() -> x.addTurn(0, 1950, 1960, 6, 60, 1, 60));
    Checks.due(x.addTurn(1, 1950, 1960, 1, 60, 1, 60), 1);
    // The turn by Easter of 1900, April 15th.
    Checks.due(x.savingAt(0, moment(1900, 4, 15, 59)), 0);
    Checks.due(x.savingAt(0, moment(1900, 4, 15, 60)), 60);
  }

  private static void addWrongTurn() {
    ZoneCalendar x = patterns();
    x.addPlace(0);
    int[][] wrong = {
      {0, 1899, 2099, 0, 0, 0, 0}, {0, 2100, 2100, 0, 0, 0, 0}, {0, 1950, 1949, 0, 0, 0, 0},
      {0, 1950, 2100, 0, 0, 0, 0}, {0, 1900, 1900, 0, -1, 0, 0}, {0, 1900, 1900, 0, 1440, 0, 0},
      {0, 1900, 1900, 0, 0, -1, 0}, {0, 1900, 1900, 0, 0, 3, 0}, {0, 1900, 1900, 0, 0, 0, -1},
      {0, 1900, 1900, 0, 0, 0, 181}, {0, 1900, 1900, 4, 0, 0, 0}, {0, Integer.MIN_VALUE, Integer.MAX_VALUE, 0, 0, 0, 0}};
    for (int[] each : wrong) {
      Checks.noArgument(() -> x.addTurn(each[0], each[1], each[2], each[3], each[4], each[5], each[6]));
    }
    for (int none : new int[] {-1, 1, 6, Integer.MAX_VALUE}) {
      Checks.noIndex(() -> x.addTurn(none, 1899, 2099, 0, 0, 0, 0));
    }
    for (int none : new int[] {-1, 5, 24, Integer.MIN_VALUE}) {
      Checks.noIndex(() -> x.addTurn(0, 1899, 2099, none, 0, 0, 0));
    }
    Checks.due(x.nextChange(0, 0), -1);
    Checks.due(x.addTurn(0, 1900, 1900, 0, 0, 0, 0), 0);
  }

  private static void savingAt() {
    ZoneCalendar x = summers();
    int spring = moment(2000, 3, 26, 60);
    int autumn = moment(2000, 10, 29, 60);
    Checks.due(x.savingAt(0, spring - 1), 0);
    Checks.due(x.savingAt(0, spring), 60);
    Checks.due(x.savingAt(0, autumn - 1), 60);
    Checks.due(x.savingAt(0, autumn), 0);
    Checks.due(x.savingAt(0, moment(1979, 7, 1, 0)), 0);
    Checks.due(x.savingAt(0, moment(1980, 7, 1, 0)), 60);
    Checks.due(x.savingAt(0, moment(2099, 7, 1, 0)), 60);
    Checks.due(x.savingAt(0, 0), 0);
    Checks.due(x.savingAt(0, LAST_MOMENT), 0);
    for (int none : new int[] {-1, LAST_MOMENT + 1, Integer.MIN_VALUE, Integer.MAX_VALUE}) {
      Checks.noIndex(() -> x.savingAt(0, none));
    }
    for (int none : new int[] {-1, 1, 6, Integer.MIN_VALUE}) {
      Checks.noIndex(() -> x.savingAt(none, 0));
    }
  }

  private static void savingByClock() {
    ZoneCalendar x = patterns();
    int day = moment(2000, 3, 26, 0);
    int later = moment(2000, 10, 29, 0);
    for (int clock = 0; clock < 3; clock++) {
      int place = x.addPlace(-300);
      x.addTurn(place, 2000, 2000, 0, 120, clock, 90);
      x.addTurn(place, 2000, 2000, 1, 180, clock, 0);
      // The base is ahead of the first turn's own clock, too: there was no saving yet.
      int first = day + 120 + (clock == CLOCK_NONE ? 0 : 300);
      int second = later + 180 + (clock == CLOCK_NONE ? 0 : 300) - (clock == CLOCK_OWN ? 90 : 0);
      Checks.due(x.nextChange(place, day - 1440), first);
      Checks.due(x.nextChange(place, first), second);
      Checks.due(x.savingAt(place, second - 1), 90);
      Checks.due(x.savingAt(place, second), 0);
    }
  }

  private static void savingInOrder() {
    ZoneCalendar x = patterns();
    int day = moment(2000, 1, 1, 0);
    int place = x.addPlace(600);
    // Told later, though by a clock that makes it the earlier MOMENT: it is put off to that of the first one.
    x.addTurn(place, 2000, 2000, 2, 200, CLOCK_BASE, 30);
    x.addTurn(place, 2000, 2000, 2, 100, CLOCK_NONE, 90);
    Checks.due(x.savingAt(place, day + 99), 0);
    Checks.due(x.savingAt(place, day + 100), 30);
    Checks.due(x.nextChange(place, 0), day + 100);
    Checks.due(x.nextChange(place, day + 100), -1);

    // The same DAY and minute: the smaller number happens first, so that the greater one counts.
    int same = x.addPlace(0);
    x.addTurn(same, 2000, 2000, 2, 100, CLOCK_NONE, 90);
    x.addTurn(same, 2000, 2000, 2, 100, CLOCK_NONE, 30);
    Checks.due(x.savingAt(same, day + 99), 0);
    Checks.due(x.savingAt(same, day + 100), 30);

    // The own clock of the second one goes by the saving of the first one, though that lasts no minute.
    int own = x.addPlace(0);
    x.addTurn(own, 2000, 2000, 2, 100, CLOCK_NONE, 50);
    x.addTurn(own, 2000, 2000, 2, 140, CLOCK_OWN, 20);
    x.addTurn(own, 2000, 2000, 2, 160, CLOCK_OWN, 10);
    Checks.due(x.savingAt(own, day + 99), 0);
    Checks.due(x.savingAt(own, day + 100), 20);
    Checks.due(x.savingAt(own, day + 139), 20);
    Checks.due(x.savingAt(own, day + 140), 10);

    // Behind a turn that was put off, the next one is not ahead of it either.
    int late = x.addPlace(840);
    x.addTurn(late, 1999, 1999, 3, 1439, CLOCK_NONE, 60);
    x.addTurn(late, 2000, 2000, 2, 0, CLOCK_OWN, 70);
    x.addTurn(late, 2000, 2000, 2, 1, CLOCK_OWN, 80);
    Checks.due(x.savingAt(late, day - 2), 0);
    Checks.due(x.savingAt(late, day - 1), 80);
    Checks.due(x.nextChange(late, day - 1), -1);
  }

  private static void savingAtEnds() {
    ZoneCalendar x = patterns();
    int early = x.addPlace(840);
    x.addTurn(early, 1900, 1900, 2, 0, CLOCK_OWN, 30);
    Checks.due(x.savingAt(early, 0), 30);
    Checks.due(x.nextChange(early, 0), -1);
    x.addTurn(early, 1900, 1900, 2, 839, CLOCK_BASE, 50);
    Checks.due(x.savingAt(early, 0), 50);
    x.addTurn(early, 1900, 1900, 2, 890, CLOCK_OWN, 70);
    Checks.due(x.savingAt(early, 0), 70);
    x.addTurn(early, 1900, 1900, 2, 911, CLOCK_OWN, 90);
    Checks.due(x.savingAt(early, 0), 70);
    Checks.due(x.savingAt(early, 1), 90);

    int late = x.addPlace(-840);
    x.addTurn(late, 2099, 2099, 3, 1439, CLOCK_BASE, 30);
    Checks.due(x.savingAt(late, LAST_MOMENT), 0);
    Checks.due(x.nextChange(late, LAST_MOMENT - 1), -1);
    int last = x.addPlace(-840);
    x.addTurn(last, 2099, 2099, 3, 599, CLOCK_BASE, 30);
    Checks.due(x.savingAt(last, LAST_MOMENT - 1), 0);
    Checks.due(x.savingAt(last, LAST_MOMENT), 30);
    Checks.due(x.nextChange(last, LAST_MOMENT - 1), LAST_MOMENT);
    Checks.due(x.nextChange(last, LAST_MOMENT), -1);
  }

  private static void localAt() {
    ZoneCalendar x = summers();
    x.addPlace(-840);
    x.addPlace(840);
    int spring = moment(2000, 3, 26, 60);
    Checks.due(x.localAt(0, spring - 1), spring + 59);
    Checks.due(x.localAt(0, spring), spring + 120);
    Checks.due(x.localAt(1, 0), -840);
    Checks.due(x.localAt(2, LAST_MOMENT), LAST_MOMENT + 840);
    for (int none : new int[] {-1, LAST_MOMENT + 1, Integer.MIN_VALUE, Integer.MAX_VALUE}) {
      Checks.noIndex(() -> x.localAt(0, none));
      Checks.noIndex(() -> x.localAt(3, none));
    }
    Checks.noIndex(() -> x.localAt(3, 0));
    Checks.noIndex(() -> x.localAt(-1, 0));
  }

  private static void nextChange() {
    ZoneCalendar x = summers();
    int spring = moment(2000, 3, 26, 60);
    int autumn = moment(2000, 10, 29, 60);
    Checks.due(x.nextChange(0, spring - 1), spring);
    Checks.due(x.nextChange(0, spring), autumn);
    Checks.due(x.nextChange(0, autumn - 1), autumn);
    Checks.due(x.nextChange(0, autumn), moment(2001, 3, 25, 60));
    Checks.due(x.nextChange(0, 0), moment(1980, 3, 30, 60));
    Checks.due(x.nextChange(0, LAST_MOMENT), -1);
    Checks.due(x.nextChange(0, moment(2099, 10, 25, 60)), -1);

    // A turn to the saving that is there already is no change, nor is one at MOMENT 0.
    int place = x.addPlace(0);
    x.addTurn(place, 1900, 1900, 2, 0, CLOCK_NONE, 20);
    x.addTurn(place, 1950, 1952, 2, 0, CLOCK_NONE, 20);
    x.addTurn(place, 1953, 1953, 2, 0, CLOCK_NONE, 0);
    Checks.due(x.nextChange(place, 0), moment(1953, 1, 1, 0));
    int soon = x.addPlace(0);
    x.addTurn(soon, 1900, 1900, 2, 1, CLOCK_NONE, 20);
    Checks.due(x.nextChange(soon, 0), 1);
    // Two turns at one MOMENT, the last of which brings the saving back, are no change.
    int back = x.addPlace(0);
    x.addTurn(back, 1900, 1900, 2, 1, CLOCK_NONE, 20);
    x.addTurn(back, 1900, 1900, 2, 1, CLOCK_NONE, 0);
    Checks.due(x.nextChange(back, 0), -1);
    Checks.noIndex(() -> x.nextChange(0, -1));
    Checks.noIndex(() -> x.nextChange(0, LAST_MOMENT + 1));
    Checks.noIndex(() -> x.nextChange(4, 0));
    Checks.noIndex(() -> x.nextChange(-1, 0));
  }

  private static void showsOften() {
    ZoneCalendar x = summers();
    int gap = moment(2000, 3, 26, 120);
    int twice = moment(2000, 10, 29, 120);
    Checks.due(x.showsOften(0, gap - 1), 1);
    Checks.due(x.showsOften(0, gap), 0);
    Checks.due(x.showsOften(0, gap + 59), 0);
    Checks.due(x.showsOften(0, gap + 60), 1);
    Checks.due(x.showsOften(0, twice - 1), 1);
    Checks.due(x.showsOften(0, twice), 2);
    Checks.due(x.showsOften(0, twice + 59), 2);
    Checks.due(x.showsOften(0, twice + 60), 1);
    Checks.due(x.showsOften(0, 59), 0);
    Checks.due(x.showsOften(0, 60), 1);
    Checks.due(x.showsOften(0, LAST_MOMENT + 60), 1);
    Checks.due(x.showsOften(0, LAST_MOMENT + 61), 0);
    Checks.due(x.showsOften(0, Integer.MIN_VALUE), 0);
    Checks.due(x.showsOften(0, Integer.MAX_VALUE), 0);

    // 180 from the day ahead on, and put back again and again: to 120, 60 and 0 at 0:00, 1:00 and 2:00.
    int place = x.addPlace(0);
    int day = moment(2000, 1, 1, 0);
    x.addTurn(place, 1999, 1999, 3, 0, CLOCK_NONE, 180);
    x.addTurn(place, 2000, 2000, 2, 0, CLOCK_NONE, 120);
    x.addTurn(place, 2000, 2000, 2, 60, CLOCK_NONE, 60);
    x.addTurn(place, 2000, 2000, 2, 120, CLOCK_NONE, 0);
    Checks.due(x.showsOften(place, day + 120), 4);
    Checks.due(x.showsOften(place, day + 119), 1);
    Checks.due(x.showsOften(place, day + 179), 4);
    Checks.due(x.showsOften(place, day + 180), 1);
    Checks.due(x.momentOf(place, day + 120), day - 60);
    Checks.due(x.lastMomentOf(place, day + 120), day + 120);
    Checks.noIndex(() -> x.showsOften(-1, 0));
    Checks.noIndex(() -> x.showsOften(2, 0));
    Checks.noIndex(() -> x.showsOften(6, Integer.MAX_VALUE));
  }

  private static void momentOf() {
    ZoneCalendar x = summers();
    int spring = moment(2000, 3, 26, 60);
    int autumn = moment(2000, 10, 29, 60);
    Checks.due(x.momentOf(0, spring + 59), spring - 1);
    Checks.due(x.momentOf(0, spring + 60), spring);
    Checks.due(x.momentOf(0, spring + 119), spring);
    Checks.due(x.momentOf(0, spring + 120), spring);
    Checks.due(x.momentOf(0, spring + 121), spring + 1);
    Checks.due(x.momentOf(0, autumn + 60), autumn - 60);
    Checks.due(x.momentOf(0, autumn + 119), autumn - 1);
    Checks.due(x.momentOf(0, autumn + 120), autumn + 60);
    Checks.noIndex(() -> x.momentOf(1, 0));
    Checks.noIndex(() -> x.momentOf(-1, 0));
    Checks.noIndex(() -> x.momentOf(6, Integer.MIN_VALUE));
  }

  private static void momentAtEnds() {
    ZoneCalendar x = patterns();
    int plain = x.addPlace(60);
    Checks.due(x.momentOf(plain, 60), 0);
    Checks.due(x.momentOf(plain, 59), -1);
    Checks.due(x.momentOf(plain, LAST_MOMENT + 60), LAST_MOMENT);
    Checks.due(x.momentOf(plain, LAST_MOMENT + 61), -1);
    Checks.due(x.momentOf(plain, Integer.MIN_VALUE), -1);
    Checks.due(x.momentOf(plain, Integer.MAX_VALUE), -1);
    int west = x.addPlace(-60);
    Checks.due(x.momentOf(west, -60), 0);
    Checks.due(x.momentOf(west, -61), -1);

    // Put forward at MOMENT 1 the clock passes a LOCAL time; at MOMENT 0 it does not, for it showed none ahead of it.
    int soon = x.addPlace(0);
    x.addTurn(soon, 1900, 1900, 2, 1, CLOCK_NONE, 30);
    Checks.due(x.momentOf(soon, 0), 0);
    Checks.due(x.momentOf(soon, 1), 1);
    Checks.due(x.momentOf(soon, 30), 1);
    Checks.due(x.momentOf(soon, 31), 1);
    int atOnce = x.addPlace(0);
    x.addTurn(atOnce, 1900, 1900, 2, 0, CLOCK_NONE, 30);
    Checks.due(x.momentOf(atOnce, 29), -1);
    Checks.due(x.momentOf(atOnce, 30), 0);
    int atLast = x.addPlace(0);
    x.addTurn(atLast, 2099, 2099, 3, 1439, CLOCK_NONE, 30);
    Checks.due(x.momentOf(atLast, LAST_MOMENT), LAST_MOMENT);
    Checks.due(x.momentOf(atLast, LAST_MOMENT + 29), LAST_MOMENT);
    Checks.due(x.momentOf(atLast, LAST_MOMENT + 30), LAST_MOMENT);
    Checks.due(x.momentOf(atLast, LAST_MOMENT + 31), -1);
    Checks.due(x.showsOften(atLast, LAST_MOMENT), 0);

    // Savings of 180, 170, 0 and 120 from the MOMENTS 0 to 3 on: 100 is passed with the last one alone.
    ZoneCalendar y = patterns();
    int hither = y.addPlace(0);
    int[] savings = {180, 170, 0, 120};
    for (int k = 0; k < 4; k++) {
      y.addTurn(hither, 1900, 1900, 2, k, CLOCK_NONE, savings[k]);
    }
    Checks.due(y.showsOften(hither, 100), 0);
    Checks.due(y.momentOf(hither, 100), 3);
    Checks.due(y.momentOf(hither, 2), 2);
    Checks.due(y.momentOf(hither, 1), -1);
    Checks.due(y.momentOf(hither, 171), 1);
  }

  /** As many turns as a place can have: 6 in each of 200 years. */
  private static void savingOfFullPlace() {
    ZoneCalendar x = new ZoneCalendar();
    x.addPlace(0);
    for (int k = 0; k < 6; k++) {
      x.addPattern(2 * k + 1, 0, 1);
      x.addTurn(0, 1900, 2099, k, 60, CLOCK_NONE, 10 * (k + 1));
    }
    int moment = 0;
    for (int year = 1900; year <= 2099; year++) {
      for (int k = 0; k < 6; k++) {
        int turn = moment(year, 2 * k + 1, 1, 60);
        Checks.due(x.nextChange(0, moment), turn);
        Checks.due(x.savingAt(0, turn), 10 * (k + 1));
        Checks.due(x.savingAt(0, turn - 1), year == 1900 && k == 0 ? 0 : k == 0 ? 60 : 10 * k);
        Checks.due(x.lastMomentOf(0, turn + 10 * (k + 1)), turn);
        moment = turn;
      }
    }
    Checks.due(x.nextChange(0, moment), -1);
    Checks.due(x.savingAt(0, LAST_MOMENT), 60);
  }

  private static void lastMomentOf() {
    ZoneCalendar x = summers();
    int spring = moment(2000, 3, 26, 60);
    int autumn = moment(2000, 10, 29, 60);
    Checks.due(x.lastMomentOf(0, spring + 59), spring - 1);
    Checks.due(x.lastMomentOf(0, spring + 60), -1);
    Checks.due(x.lastMomentOf(0, spring + 119), -1);
    Checks.due(x.lastMomentOf(0, spring + 120), spring);
    Checks.due(x.lastMomentOf(0, autumn + 59), autumn - 61);
    Checks.due(x.lastMomentOf(0, autumn + 60), autumn);
    Checks.due(x.lastMomentOf(0, autumn + 119), autumn + 59);
    Checks.due(x.lastMomentOf(0, autumn + 120), autumn + 60);
    Checks.due(x.lastMomentOf(0, 59), -1);
    Checks.due(x.lastMomentOf(0, 60), 0);
    Checks.due(x.lastMomentOf(0, LAST_MOMENT + 60), LAST_MOMENT);
    Checks.due(x.lastMomentOf(0, LAST_MOMENT + 61), -1);
    Checks.due(x.lastMomentOf(0, Integer.MIN_VALUE), -1);
    Checks.due(x.lastMomentOf(0, Integer.MAX_VALUE), -1);
    Checks.noIndex(() -> x.lastMomentOf(1, 0));
    Checks.noIndex(() -> x.lastMomentOf(-1, 0));
  }

  private static void ahead() {
    ZoneCalendar x = summers();
    x.addPlace(-300);
    int spring = moment(2000, 3, 26, 60);
    Checks.due(x.ahead(0, 1, spring - 1), 360);
    Checks.due(x.ahead(0, 1, spring), 420);
    Checks.due(x.ahead(1, 0, spring), -420);
    Checks.due(x.ahead(0, 0, spring), 0);
    Checks.noIndex(() -> x.ahead(0, 2, 0));
    Checks.noIndex(() -> x.ahead(2, 0, 0));
    Checks.noIndex(() -> x.ahead(-1, 0, 0));
    Checks.noIndex(() -> x.ahead(0, -1, 0));
    Checks.noIndex(() -> x.ahead(0, 0, -1));
    Checks.noIndex(() -> x.ahead(0, 0, LAST_MOMENT + 1));
  }
}
