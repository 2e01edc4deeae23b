/** Part 1 of the document, promises 1 to 7: a test for each sentence that names a boundary case. */
public final class PulseLimitsTest {
  private static final int UNKNOWN = -1, OUTSIDE = -2, STATE = -3, FULL = -4;
  private static final int[] LEAST = {0, 0, 2, 0}, MOST = {100, 40, 6, 3}, AT_FIRST = {20, 5, 2, 1};

  private static void due(String call, long got, long want) { Due.due(call, got, want); }

  private static CounterHouse withBound(int bound) {
    CounterHouse x = new CounterHouse();
    x.tune(0, bound);
    return x;
  }

  /** A house with BOUND 100, so that no PULSE of a short RUN is TOO LATE, and PLANE 0 as told. */
  private static CounterHouse withPlane(int lag, int dead, int manner) {
    CounterHouse x = withBound(100);
    x.plane(0, lag, dead, manner);
    return x;
  }

  private static void tell(CounterHouse x, int plane, int... moments) {
    for (int m : moments) x.pulse(plane, m, 0);
  }

  private static CounterHouse full(int moment) {
    CounterHouse x = new CounterHouse();
    for (int i = 0; i < 240; i++) x.pulse(i % 6, moment, i % 16);
    return x;
  }

  public static void main(String[] args) {
    planesAtFirst();
    settingsAtFirst();
    nothingToldAtFirst();
    housesAreApart();
    numbersOfPlanes();
    numbersOfSettings();
    stateOfPlaneAndTune();
    numbersOfPulses();
    horizonOfNone();
    horizonByBound();
    latestIsTheGreatestKept();
    tooLateAtTheHorizon();
    tooLateIsCountedAlone();
    mostKept();
    afterTheEnd();
    settledBelowTheHorizon();
    orderOfLiveOnes();
    endIsZeroAtFirst();
    stiff();
    stretched();
    deadOfNothing();
    countsOfAPlane();
    endTellsWhatBecomesSettled();
    anewTellsTheKeptOnes();
    anewLeavesNothing();
    anewLetsPlanesAndSettingsStay();
    allCalls();
    Due.close();
  }

  // ---- promise 1

  /** PLANES 0 .. 5, "0 at first". */
  private static void planesAtFirst() {
    CounterHouse x = new CounterHouse();
    for (int what = 0; what <= 5; what++) {
      due("1: ofPlane(-1, " + what + ") of a new object", x.ofPlane(-1, what), UNKNOWN);
      due("1: ofPlane(6, " + what + ") of a new object", x.ofPlane(6, what), UNKNOWN);
      for (int k = 0; k <= 5; k++) due("1: ofPlane(" + k + ", " + what + ") at first", x.ofPlane(k, what), 0);
    }
  }

  /** "0 BOUND (.. 20 at first), 1 WIDTH (.. 5), 2 FOLD (.. 2), 3 SLACK (.. 1)". */
  private static void settingsAtFirst() {
    for (int which = 0; which < 4; which++) {
      due("1: SETTING " + which + " at first", new CounterHouse().tune(which, MOST[which]), AT_FIRST[which]);
    }
  }

  private static void nothingToldAtFirst() {
    CounterHouse x = new CounterHouse();
    for (int what = 0; what <= 10; what++) due("1: many(" + what + ") of an empty RUN", x.many(what), 0);
    due("1: HORIZON of an empty RUN", x.many(11), 1000);
    due("1: EDGE of an empty RUN", x.many(12), 1000);
    due("1: no GROUP", x.group(0, 0), UNKNOWN);
    due("1: no MEMBER", x.member(0, 0, 0), UNKNOWN);
    due("1: no TRACK", x.track(0, 0), UNKNOWN);
    for (int how = 0; how <= 2; how++) due("1: having(0, " + how + ")", x.having(0, how), 0);
    for (int n = 1; n <= 6; n++) due("1: folds(" + n + ")", x.folds(n), 0);
    due("1: twos", x.twos(0, 1, 0), 0);
    due("1: through", x.through(0, 0), 0);
    due("1: none was KEPT", x.anew(), 0);
    due("1: it has not ENDED", x.end(), 0);
  }

  private static void housesAreApart() {
    CounterHouse x = new CounterHouse(), y = new CounterHouse();
    x.plane(0, 30, 50, 1);
    x.tune(0, 100);
    x.pulse(0, 500, 1);
    x.end();
    due("1: LAG of another object", y.ofPlane(0, 0), 0);
    due("1: KEPT ones of another object", y.many(2), 0);
    due("1: BOUND of another object", y.tune(0, 7), 20);
    due("1: the other one has not ENDED", y.end(), 0);
  }

  // ---- promises 2 and 4

  /** PLANES 0 .. 5, "a LAG (0 .. 30), a DEAD time (0 .. 50), a MANNER (0, 1)". */
  private static void numbersOfPlanes() {
    CounterHouse x = new CounterHouse();
    int[][] good = {{0, 0, 0, 0}, {0, 30, 0, 0}, {0, 0, 50, 0}, {0, 0, 0, 1}, {0, 30, 50, 1}, {5, 0, 0, 0}, {5, 30, 50, 1}};
    for (int[] g : good) {
      due("2: a PLANE gets the least or the greatest", x.plane(g[0], g[1], g[2], g[3]), 1);
      for (int what = 0; what < 3; what++) due("3: what it got", x.ofPlane(g[0], what), g[what + 1]);
    }
    due("2: LAG -1", x.plane(0, -1, 1, 0), OUTSIDE);
    due("2: LAG 31", x.plane(0, 31, 1, 0), OUTSIDE);
    due("2: DEAD -1", x.plane(0, 1, -1, 0), OUTSIDE);
    due("2: DEAD 51", x.plane(0, 1, 51, 0), OUTSIDE);
    due("2: MANNER -1", x.plane(0, 1, 1, -1), OUTSIDE);
    due("2: MANNER 2", x.plane(0, 1, 1, 2), OUTSIDE);
    due("2: PLANE -1", x.plane(-1, 1, 1, 0), UNKNOWN);
    due("2: PLANE 6", x.plane(6, 1, 1, 0), UNKNOWN);
    due("2: a refused call leaves LAG", x.ofPlane(0, 0), 30);
    due("2: a refused call leaves DEAD", x.ofPlane(0, 1), 50);
    due("2: a refused call leaves MANNER", x.ofPlane(0, 2), 1);
    due("2: other PLANES stay as they are", x.ofPlane(4, 0) + x.ofPlane(4, 1) + x.ofPlane(1, 2), 0);
    x.plane(5, 0, 0, 0);
    due("2: EDGE is the HORIZON less the greatest LAG, here 30", x.many(12), 970);
    x.plane(0, 0, 0, 0);
    due("2: EDGE with each LAG 0", x.many(12), 1000);
  }

  private static void numbersOfSettings() {
    for (int which = 0; which < 4; which++) {
      CounterHouse x = new CounterHouse();
      due("4: SETTING " + which + " just below the least", x.tune(which, LEAST[which] - 1), OUTSIDE);
      due("4: SETTING " + which + " just above the greatest", x.tune(which, MOST[which] + 1), OUTSIDE);
      due("4: SETTING " + which + " is what it was at first", x.tune(which, LEAST[which]), AT_FIRST[which]);
      due("4: SETTING " + which + " was the least", x.tune(which, MOST[which]), LEAST[which]);
      due("4: SETTING " + which + " below, once more", x.tune(which, LEAST[which] - 1), OUTSIDE);
      due("4: SETTING " + which + " was the greatest", x.tune(which, MOST[which]), MOST[which]);
      for (int other = 0; other < 4; other++) {
        if (other != which) due("4: SETTING " + other + " stays", x.tune(other, AT_FIRST[other]), AT_FIRST[other]);
      }
    }
    CounterHouse x = new CounterHouse();
    due("4: SETTING -1", x.tune(-1, 2), OUTSIDE);
    due("4: SETTING 4", x.tune(4, 2), OUTSIDE);
  }

  /** "STATE: a PULSE was KEPT in the RUN, or it has ENDED". */
  private static void stateOfPlaneAndTune() {
    CounterHouse x = new CounterHouse();
    x.pulse(6, 0, 0);
    x.pulse(0, -1, 0);
    x.pulse(0, 0, 16);
    due("2: a refused PULSE is not KEPT", x.plane(0, 1, 2, 1), 1);
    due("4: a refused PULSE is not KEPT", x.tune(0, 30), 20);
    x.pulse(0, 0, 0);
    due("2: one was KEPT", x.plane(0, 3, 3, 0), STATE);
    due("4: one was KEPT", x.tune(0, 40), STATE);
    due("2: OUTSIDE ahead of STATE", x.plane(0, 31, 3, 0), OUTSIDE);
    due("2: UNKNOWN ahead of STATE", x.plane(6, 3, 3, 0), UNKNOWN);
    due("4: OUTSIDE ahead of STATE", x.tune(0, 101), OUTSIDE);
    due("4: OUTSIDE ahead of STATE", x.tune(4, 0), OUTSIDE);
    x.end();
    due("2: KEPT and ENDED", x.plane(0, 3, 3, 0), STATE);
    due("4: KEPT and ENDED", x.tune(0, 40), STATE);
    x.anew();
    due("2: LAG, as told last", x.ofPlane(0, 0), 1);
    due("2: a new RUN", x.plane(0, 3, 3, 0), 1);
    due("4: a new RUN, with what was tuned last", x.tune(0, 40), 30);
    x.end();
    due("2: ENDED with none KEPT", x.plane(0, 4, 4, 0), STATE);
    due("4: ENDED with none KEPT", x.tune(0, 50), STATE);
    x.anew();
    due("4: which changed nothing", x.tune(0, 50), 40);
  }

  // ---- promise 5

  /** "at a MOMENT (0 .. 9999), on a strip (0 .. 15)". */
  private static void numbersOfPulses() {
    CounterHouse x = new CounterHouse();
    due("5: MOMENT -1", x.pulse(0, -1, 0), OUTSIDE);
    due("5: MOMENT 10000", x.pulse(0, 10000, 0), OUTSIDE);
    due("5: strip -1", x.pulse(0, 0, -1), OUTSIDE);
    due("5: strip 16", x.pulse(0, 0, 16), OUTSIDE);
    due("5: PLANE -1", x.pulse(-1, 0, 0), UNKNOWN);
    due("5: PLANE 6", x.pulse(6, 0, 0), UNKNOWN);
    due("5: UNKNOWN ahead of OUTSIDE", x.pulse(6, 10000, 16), UNKNOWN);
    due("5: refused ones are not told", x.many(0), 0);
    due("5: refused ones leave the HORIZON", x.many(11), 1000);
    due("5: the least", x.pulse(0, 0, 0), 1);
    due("5: the greatest", x.pulse(5, 9999, 15), 1);
    x.end();
    due("5: MOMENT 0", x.member(0, 0, 0), 0);
    due("5: strip 0", x.member(0, 0, 1), 0);
    due("5: MOMENT 9999", x.member(1, 5, 0), 9999);
    due("5: strip 15", x.member(1, 5, 1), 15);
  }

  /** "HORIZON: .. -1000, as long as none was KEPT; 20000, once the RUN has ENDED, also if none was KEPT". */
  private static void horizonOfNone() {
    CounterHouse x = withBound(0);
    due("5: -1000 with BOUND 0", x.many(11), 1000);
    x.tune(0, 100);
    due("5: -1000 with BOUND 100", x.many(11), 1000);
    due("5: MOMENT 0 is KEPT then", x.pulse(0, 0, 0), 1);
    x.anew();
    due("5: -1000 in a new RUN", x.many(11), 1000);
    x.end();
    due("5: 20000 with none KEPT", x.many(11), 22000);
    due("5: EDGE with none KEPT", x.many(12), 22000);
    x.anew();
    x.plane(3, 30, 0, 0);
    x.pulse(0, 9999, 0);
    x.end();
    due("5: 20000 with some KEPT", x.many(11), 22000);
    due("5: EDGE by the LAG of a PLANE without PULSES", x.many(12), 21970);
  }

  /** "HORIZON: LATEST less BOUND". */
  private static void horizonByBound() {
    CounterHouse x = withBound(0);
    x.pulse(0, 0, 0);
    due("5: LATEST 0 less BOUND 0", x.many(11), 2000);
    x.pulse(0, 9999, 0);
    due("5: LATEST 9999 less BOUND 0", x.many(11), 11999);
    CounterHouse y = withBound(100);
    y.pulse(0, 0, 0);
    due("5: LATEST 0 less BOUND 100", y.many(11), 1900);
    y.pulse(0, 9999, 0);
    due("5: LATEST 9999 less BOUND 100", y.many(11), 11899);
    CounterHouse z = new CounterHouse();
    z.plane(1, 30, 0, 0);
    z.pulse(0, 0, 0);
    due("5: EDGE: LATEST 0 less BOUND 20 less LAG 30", z.many(12), 1950);
  }

  /** "LATEST: the greatest MOMENT of those that were KEPT". */
  private static void latestIsTheGreatestKept() {
    CounterHouse x = new CounterHouse();
    x.pulse(0, 100, 0);
    x.pulse(0, 90, 0);
    due("5: an earlier one that is KEPT leaves it", x.many(11), 2080);
    x.pulse(0, 70, 0);
    due("5: one that is TOO LATE leaves it", x.many(11), 2080);
    x.pulse(0, 10000, 0);
    x.pulse(0, 200, 16);
    due("5: a refused one leaves it", x.many(11), 2080);
    x.pulse(5, 101, 0);
    due("5: a later one of another PLANE makes it", x.many(11), 2081);
    CounterHouse y = full(50);
    due("5: FULL", y.pulse(0, 500, 0), FULL);
    due("5: one for which it is FULL leaves it", y.many(11), 2030);
  }

  /** "TOO LATE, if its MOMENT is less than the HORIZON as that is ahead of it; else it is KEPT". */
  private static void tooLateAtTheHorizon() {
    int[] bounds = {0, 1, 20, 100};
    for (int bound : bounds) {
      CounterHouse x = withBound(bound);
      x.pulse(0, 500, 0);
      due("5: just below the HORIZON, BOUND " + bound, x.pulse(1, 499 - bound, 0), 0);
      due("5: at the HORIZON, BOUND " + bound, x.pulse(1, 500 - bound, 0), 1);
      due("5: MOMENT 0, BOUND " + bound, x.pulse(1, 0, 0), 0);
    }
    CounterHouse y = withBound(100);
    y.pulse(0, 100, 0);
    due("5: MOMENT 0 at HORIZON 0", y.pulse(0, 0, 0), 1);
    y.pulse(0, 101, 0);
    due("5: MOMENT 0 at HORIZON 1", y.pulse(0, 0, 0), 0);
    due("5: MOMENT 1 at HORIZON 1", y.pulse(0, 1, 0), 1);
    CounterHouse z = withBound(0);
    z.pulse(0, 5, 0);
    due("5: the HORIZON ahead of it, not the one that it makes", z.pulse(0, 9999, 0), 1);
  }

  /** "late ones counted alone". */
  private static void tooLateIsCountedAlone() {
    CounterHouse x = withBound(0);
    x.plane(0, 0, 10, 1);
    x.pulse(1, 20, 0);
    due("5: TOO LATE", x.pulse(0, 15, 0), 0);
    x.pulse(0, 24, 0);
    x.pulse(1, 30, 0);
    due("19: told", x.many(0), 4);
    due("19: TOO LATE", x.many(1), 1);
    due("19: KEPT", x.many(2), 3);
    due("3: KEPT of its PLANE", x.ofPlane(0, 3), 1);
    due("3: it does not stretch END", x.ofPlane(0, 4), 1);
    due("3: nor is it DEADENED", x.ofPlane(0, 5), 0);
    x.end();
    due("14: it takes no LIVE TIME", x.live(0), 24);
    due("13: it is in no two", x.twos(1, 0, -5), 0);
    due("7: it is not among the KEPT ones", x.anew(), 3);
    due("19: TOO LATE ones of the RUN alone", x.many(1), 0);
  }

  /** "KEPT (240 at most)"; "FULL: it would be KEPT, but 240 are". */
  private static void mostKept() {
    CounterHouse x = new CounterHouse();
    for (int i = 0; i < 239; i++) x.pulse(i % 6, 100, i % 16);
    due("5: the 240th", x.pulse(5, 100, 15), 1);
    due("5: the 241st", x.pulse(5, 100, 15), FULL);
    due("5: at the HORIZON", x.pulse(0, 80, 0), FULL);
    due("5: just below the HORIZON it would not be KEPT", x.pulse(0, 79, 0), 0);
    due("5: beyond LATEST", x.pulse(0, 9999, 0), FULL);
    due("5: OUTSIDE ahead of FULL", x.pulse(0, 10000, 0), OUTSIDE);
    due("5: UNKNOWN ahead of FULL", x.pulse(-1, 100, 0), UNKNOWN);
    due("19: told: 240 and the TOO LATE one", x.many(0), 241);
    due("19: TOO LATE", x.many(1), 1);
    due("19: KEPT", x.many(2), 240);
    due("2: STATE", x.plane(0, 1, 1, 1), STATE);
    due("6: all of them become SETTLED", x.end(), 240);
    due("5: STATE ahead of FULL", x.pulse(0, 100, 0), STATE);
    due("7: 240", x.anew(), 240);
    due("5: it is not FULL in a new RUN", x.pulse(0, 100, 0), 1);
  }

  /** "STATE: the RUN has ENDED". */
  private static void afterTheEnd() {
    CounterHouse x = new CounterHouse();
    x.end();
    due("5: ENDED with none", x.pulse(0, 9999, 0), STATE);
    due("5: none is TOO LATE then", x.pulse(0, 0, 0), STATE);
    due("5: OUTSIDE ahead of STATE", x.pulse(0, -1, 0), OUTSIDE);
    due("5: UNKNOWN ahead of STATE", x.pulse(6, 0, 0), UNKNOWN);
    due("19: none was told", x.many(0), 0);
    due("19: none was TOO LATE", x.many(1), 0);
  }

  // ---- terms of part 1

  /** "SETTLED are KEPT ones with a MOMENT less than the HORIZON". */
  private static void settledBelowTheHorizon() {
    CounterHouse x = new CounterHouse();
    x.pulse(0, 100, 0);
    x.pulse(0, 120, 0);
    due("19: at the HORIZON it is not SETTLED", x.many(3), 0);
    due("3: nor LIVE", x.ofPlane(0, 4), 0);
    x.pulse(0, 121, 0);
    due("19: just below the HORIZON it is", x.many(3), 1);
    due("3: and LIVE", x.ofPlane(0, 4), 1);
    CounterHouse y = withBound(0);
    y.pulse(0, 7, 0);
    due("19: BOUND 0: the one at LATEST is not SETTLED", y.many(3), 0);
    y.pulse(0, 8, 0);
    due("19: BOUND 0: the one ahead of it is", y.many(3), 1);
    y.anew();
    y.pulse(0, 9999, 0);
    y.end();
    due("19: MOMENT 9999 is SETTLED by the end", y.many(3), 1);
    due("19: and KNOWN", y.many(6), 1);
  }

  /** "IN ORDER: by MOMENT, then PLANE, then strip", however they are told. */
  private static void orderOfLiveOnes() {
    CounterHouse x = withPlane(0, 10, 0);
    tell(x, 0, 30, 19, 20, 9, 10, 0);
    x.end();
    due("3: by MOMENT: 0, 10, 20, 30 LIVE", x.ofPlane(0, 4), 4);
    CounterHouse y = withPlane(0, 1, 0);
    y.pulse(0, 50, 15);
    y.pulse(0, 50, 0);
    y.pulse(0, 50, 7);
    y.end();
    due("3: by strip: one LIVE", y.ofPlane(0, 4), 1);
    due("9: the one with the least strip", y.member(0, 0, 1), 0);
    CounterHouse z = withPlane(0, 50, 1);
    z.plane(1, 0, 50, 1);
    z.pulse(1, 50, 1);
    z.pulse(0, 50, 0);
    z.end();
    due("3: each PLANE has an END of its own", z.ofPlane(0, 4) * 10 + z.ofPlane(1, 4), 11);
  }

  /** "END is 0 at first. One whose MOMENT is END or more is LIVE". */
  private static void endIsZeroAtFirst() {
    for (int manner = 0; manner < 2; manner++) {
      CounterHouse x = withPlane(30, 50, manner);
      tell(x, 0, 0, 49);
      x.end();
      due("3: MOMENT 0 is LIVE, and 49 DEADENED", x.ofPlane(0, 4) * 10 + x.ofPlane(0, 5), 11);
      x.anew();
      tell(x, 0, 0);
      x.end();
      due("3: and so in a new RUN", x.ofPlane(0, 4) * 10 + x.ofPlane(0, 5), 10);
    }
  }

  private static void liveOnes(String when, CounterHouse x, int live, int deadened) {
    x.end();
    due("3: " + when + ": LIVE", x.ofPlane(0, 4), live);
    due("3: " + when + ": DEADENED", x.ofPlane(0, 5), deadened);
    due("19: " + when + ": LIVE", x.many(4), live);
    due("19: " + when + ": DEADENED", x.many(5), deadened);
  }

  /** "STIFF: a LIVE one makes END its MOMENT and DEAD". */
  private static void stiff() {
    CounterHouse x = withPlane(0, 50, 0);
    tell(x, 0, 10, 59);
    liveOnes("STIFF: one less than END", x, 1, 1);
    x.anew();
    tell(x, 0, 10, 60);
    liveOnes("STIFF: END itself", x, 2, 0);
    x.anew();
    tell(x, 0, 10, 59, 60);
    liveOnes("STIFF: a DEADENED one makes no END", x, 2, 1);
    x.anew();
    tell(x, 0, 10, 60, 109);
    liveOnes("STIFF: the second LIVE one makes another END", x, 2, 1);
    x.anew();
    tell(x, 0, 10, 60, 110);
    liveOnes("STIFF: END of the second LIVE one", x, 3, 0);
  }

  /** "STRETCHED: each one does, DEADENED ones too". */
  private static void stretched() {
    CounterHouse x = withPlane(0, 50, 1);
    tell(x, 0, 10, 59);
    liveOnes("STRETCHED: one less than END", x, 1, 1);
    x.anew();
    tell(x, 0, 10, 60);
    liveOnes("STRETCHED: END itself", x, 2, 0);
    x.anew();
    tell(x, 0, 10, 59, 60);
    liveOnes("STRETCHED: a DEADENED one makes END", x, 1, 2);
    x.anew();
    tell(x, 0, 10, 59, 108);
    liveOnes("STRETCHED: one less than END of a DEADENED one", x, 1, 2);
    x.anew();
    tell(x, 0, 10, 59, 109);
    liveOnes("STRETCHED: END of a DEADENED one", x, 2, 1);
  }

  /** DEAD 0, the least, and DEAD 1, the one above it. */
  private static void deadOfNothing() {
    for (int manner = 0; manner < 2; manner++) {
      CounterHouse x = withPlane(0, 0, manner);
      tell(x, 0, 7, 7, 7, 8);
      liveOnes("DEAD 0, MANNER " + manner, x, 4, 0);
      x.anew();
      x.plane(0, 0, 1, manner);
      tell(x, 0, 7, 7, 7, 8);
      liveOnes("DEAD 1, MANNER " + manner, x, 2, 2);
    }
  }

  // ---- promise 3

  private static void countsOfAPlane() {
    CounterHouse x = new CounterHouse();
    for (int i = 0; i < 240; i++) x.pulse(5, 100, i % 16);
    due("3: 240 KEPT", x.ofPlane(5, 3), 240);
    due("3: none of another PLANE", x.ofPlane(4, 3), 0);
    due("3: none LIVE as long as none is SETTLED", x.ofPlane(5, 4), 0);
    due("3: none DEADENED as long as none is SETTLED", x.ofPlane(5, 5), 0);
    x.end();
    due("3: 240 LIVE with DEAD 0", x.ofPlane(5, 4), 240);
    due("3: none DEADENED", x.ofPlane(5, 5), 0);
    x.anew();
    x.plane(5, 0, 50, 1);
    for (int i = 0; i < 240; i++) x.pulse(5, 100, i % 16);
    x.end();
    due("3: 1 LIVE", x.ofPlane(5, 4), 1);
    due("3: 239 DEADENED", x.ofPlane(5, 5), 239);
    due("3: what -1", x.ofPlane(5, -1), OUTSIDE);
    due("3: what 6", x.ofPlane(5, 6), OUTSIDE);
    due("3: UNKNOWN ahead of OUTSIDE", x.ofPlane(6, 6), UNKNOWN);
  }

  // ---- promises 6 and 7

  /** "how many KEPT PULSES become SETTLED by that. STATE: it has ENDED already". */
  private static void endTellsWhatBecomesSettled() {
    CounterHouse x = withBound(0);
    due("6: an empty RUN", x.end(), 0);
    due("6: it has ENDED already, with none", x.end(), STATE);
    x.anew();
    tell(x, 0, 10, 20, 30);
    due("6: BOUND 0: those at LATEST alone", x.end(), 1);
    due("6: it has ENDED already", x.end(), STATE);
    due("6: which changed nothing", x.many(3), 3);
    CounterHouse y = withBound(100);
    tell(y, 0, 10, 110, 111);
    due("6: BOUND 100: one is SETTLED ahead of it", y.end(), 2);
    y.anew();
    tell(y, 0, 10, 110, 9);
    due("6: TOO LATE ones do not become SETTLED", y.end(), 2);
    due("6: a full RUN", full(9999).end(), 240);
  }

  /** "how many PULSES were KEPT". */
  private static void anewTellsTheKeptOnes() {
    CounterHouse x = new CounterHouse();
    due("7: a RUN in which nothing was told", x.anew(), 0);
    x.pulse(0, 100, 0);
    x.pulse(0, 79, 0);
    x.pulse(0, -1, 0);
    due("7: not TOO LATE ones, nor refused ones", x.anew(), 1);
    due("7: once more", x.anew(), 0);
    x.end();
    due("7: after the end of an empty RUN", x.anew(), 0);
    x.pulse(0, 100, 0);
    x.end();
    due("7: after the end", x.anew(), 1);
    due("7: a full RUN", full(0).anew(), 240);
  }

  /** "A new RUN, in which nothing was told". */
  private static void anewLeavesNothing() {
    CounterHouse x = new CounterHouse();
    x.plane(0, 0, 50, 1);
    for (int k = 0; k < 3; k++) tell(x, k, 9000, 9100, 9200);
    x.end();
    x.anew();
    for (int what = 0; what <= 10; what++) due("7: many(" + what + ")", x.many(what), 0);
    due("7: HORIZON", x.many(11), 1000);
    due("7: no GROUP", x.group(0, 0), UNKNOWN);
    due("7: it has not ENDED: live", x.live(0), STATE);
    due("7: it has not ENDED: shifted", x.shifted(0, 0), STATE);
    due("7: it has not ENDED: pulse, and LATEST is none", x.pulse(0, 0, 0), 1);
    x.pulse(1, 1, 0);
    due("6: two KEPT ones", x.end(), 2);
    due("7: END was 0", x.ofPlane(0, 4), 1);
    due("14: SPAN is 2", x.live(1), 2);
    due("8: one GROUP", x.group(0, 2), 2);
    due("8: and no other", x.group(1, 2), UNKNOWN);
  }

  /** "PLANES and SETTINGS stay". */
  private static void anewLetsPlanesAndSettingsStay() {
    CounterHouse x = new CounterHouse();
    for (int k = 0; k < 6; k++) x.plane(k, 30 - k, 50 - k, k % 2);
    for (int which = 0; which < 4; which++) x.tune(which, MOST[which]);
    x.pulse(0, 1, 1);
    x.end();
    x.anew();
    for (int k = 0; k < 6; k++) {
      due("7: LAG of " + k, x.ofPlane(k, 0), 30 - k);
      due("7: DEAD of " + k, x.ofPlane(k, 1), 50 - k);
      due("7: MANNER of " + k, x.ofPlane(k, 2), k % 2);
    }
    for (int which = 0; which < 4; which++) due("7: SETTING " + which, x.tune(which, MOST[which]), MOST[which]);
  }

  /** "An object is used for at most 512 calls after it has been made": the last of them answers as the first. */
  private static void allCalls() {
    CounterHouse x = new CounterHouse();
    for (int i = 0; i < 240; i++) x.pulse(i % 6, 41 * i, i % 16);
    x.end();
    x.anew();
    for (int i = 0; i < 240; i++) x.pulse(i % 6, 41 * i, i % 16);
    due("call 483", x.end(), 1);
    for (int i = 0; i < 27; i++) due("call " + (484 + i), x.shifted(21, 41), 120);
    due("call 511", x.many(7), 240);
    due("call 512", x.group(239, 0), 41 * 239 + 100);
  }
}
