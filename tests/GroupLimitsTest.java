/** Part 2 of the document, promises 8 to 11: a test for each sentence that names a boundary case. */
public final class GroupLimitsTest {
  private static final int UNKNOWN = -1, OUTSIDE = -2, NONE = -9;

  private static void due(String call, long got, long want) { Due.due(call, got, want); }

  private static CounterHouse with(int bound, int width) {
    CounterHouse x = new CounterHouse();
    x.tune(0, bound);
    x.tune(1, width);
    return x;
  }

  /** PULSES of PLANES 0, 1, 2 and so on, each at the MOMENT that is told for it. */
  private static CounterHouse each(CounterHouse x, int... moments) {
    for (int k = 0; k < moments.length; k++) x.pulse(k, moments[k], 0);
    return x;
  }

  private static void group(String when, CounterHouse x, int k, int time, int set, int pulses, int spare, int length) {
    int[] want = {time + 100, set, pulses, spare, length};
    for (int w = 0; w < 5; w++) due("8: " + when + ": group(" + k + ", " + w + ")", x.group(k, w), want[w]);
  }

  public static void main(String[] args) {
    numbersOfGroups();
    leastAndGreatestTimes();
    widthItself();
    widthIsFromTheFirst();
    orderByTime();
    knownBelowTheEdge();
    shutBelowTheEdge();
    greatestLagOfAllPlanes();
    eachOnce();
    nothingCanComeToThem();
    deadenedOnesAreInNone();
    spareOnes();
    numbersOfMembers();
    firstOneIsTheMember();
    noMember();
    sets();
    setsOfNoGroups();
    numbersOfFolds();
    foldItself();
    Due.close();
  }

  // ---- promise 8

  /** "UNKNOWN (there is no such .. GROUP)"; the numbers of what. */
  private static void numbersOfGroups() {
    CounterHouse x = new CounterHouse();
    due("8: GROUP 0 of none", x.group(0, 0), UNKNOWN);
    x.end();
    due("8: GROUP 0 of none, ENDED", x.group(0, 0), UNKNOWN);
    x.anew();
    each(x, 10, 20, 30).end();
    due("8: GROUP -1", x.group(-1, 0), UNKNOWN);
    due("8: the first", x.group(0, 0), 110);
    due("8: the last", x.group(2, 0), 130);
    due("8: one behind the last", x.group(3, 0), UNKNOWN);
    due("8: what -1", x.group(0, -1), OUTSIDE);
    due("8: what 5", x.group(2, 5), OUTSIDE);
    due("8: UNKNOWN ahead of OUTSIDE", x.group(3, 5), UNKNOWN);
    due("8: UNKNOWN ahead of OUTSIDE", x.group(-1, -1), UNKNOWN);
    CounterHouse y = with(0, 0);
    for (int i = 0; i < 240; i++) y.pulse(i % 6, i, 0);
    due("8: all but the one at LATEST", y.many(7), 239);
    due("8: the 240th is not SHUT", y.group(239, 0), UNKNOWN);
    y.end();
    due("8: the most GROUPS", y.many(7), 240);
    group("the last of the most", y, 239, 239, 32, 1, 0, 0);
    due("8: the 241st", y.group(240, 0), UNKNOWN);
  }

  /** "TIME of a PULSE: its MOMENT less the LAG of its PLANE", told with 100 more. */
  private static void leastAndGreatestTimes() {
    CounterHouse x = new CounterHouse();
    x.plane(0, 30, 0, 0);
    x.plane(1, 1, 0, 0);
    each(x, 0, 0, 0).pulse(5, 9999, 0);
    x.end();
    group("TIME -30", x, 0, -30, 1, 1, 0, 0);
    group("TIME -1", x, 1, -1, 6, 2, 0, 1);
    group("TIME 9999", x, 2, 9999, 32, 1, 0, 0);
    CounterHouse y = new CounterHouse();
    each(y, 0).end();
    group("TIME 0", y, 0, 0, 1, 1, 0, 0);
  }

  /** "all whose TIME is not more than WIDTH above its TIME are in it, too". */
  private static void widthItself() {
    int[] widths = {0, 1, 5, 39, 40};
    for (int width : widths) {
      CounterHouse x = each(with(100, width), 50, 50 + width);
      x.end();
      group("just WIDTH above, " + width, x, 0, 50, 3, 2, 0, width);
      due("8: just WIDTH above, " + width + ": one GROUP", x.many(7), 1);
      x.anew();
      each(x, 50, 51 + width).end();
      group("more than WIDTH above, " + width, x, 0, 50, 1, 1, 0, 0);
      group("more than WIDTH above, " + width, x, 1, 51 + width, 2, 1, 0, 0);
      due("8: more than WIDTH above, " + width + ": two GROUPS", x.many(7), 2);
    }
  }

  /** "the first one that is in no GROUP begins one; .. and so on". */
  private static void widthIsFromTheFirst() {
    CounterHouse x = each(with(100, 10), 50, 60, 61, 70, 71, 72);
    x.end();
    group("begun by the first", x, 0, 50, 3, 2, 0, 10);
    group("begun by the next in none", x, 1, 61, 28, 3, 0, 10);
    due("8: 71 is 10 above 61, 72 is not", x.many(7), 3);
  }

  private static void orderByTime() {
    CounterHouse x = with(100, 3);
    x.plane(0, 30, 0, 0);
    each(x, 80, 49, 53).end();
    group("by TIME, not by MOMENT", x, 0, 49, 3, 2, 0, 1);
    group("by TIME, not by MOMENT", x, 1, 53, 4, 1, 0, 0);
  }

  /** "KNOWN are LIVE ones with a TIME less than EDGE". */
  private static void knownBelowTheEdge() {
    CounterHouse x = with(10, 0);
    x.plane(5, 4, 0, 0);
    each(x, 100, 101, 102);
    x.pulse(3, 115, 0);
    due("19: EDGE 101", x.many(12), 2101);
    due("19: three are LIVE", x.many(4), 3);
    due("19: TIME 100 alone is less", x.many(6), 1);
    x.pulse(3, 116, 0);
    due("19: EDGE 102, TIME 101 is less", x.many(6), 2);
    x.anew();
    x.pulse(5, 104, 0);
    x.pulse(0, 100, 0);
    x.pulse(3, 114, 0);
    due("19: EDGE 100: a MOMENT of 104 less LAG 4 is not less", x.many(6), 0);
    x.pulse(3, 115, 0);
    due("19: EDGE 101: it is, once it is LIVE; HORIZON 105", x.many(6), 2);
  }

  /** "A GROUP is SHUT, if TIME of its first one and WIDTH are less than EDGE". */
  private static void shutBelowTheEdge() {
    int[] widths = {0, 5, 40};
    for (int width : widths) {
      CounterHouse x = each(with(10, width), 100);
      x.pulse(1, 110 + width, 0);
      due("8: TIME and WIDTH are EDGE, " + width, x.many(7), 0);
      due("8: not told, " + width, x.group(0, 0), UNKNOWN);
      due("9: not told, " + width, x.member(0, 0, 0), UNKNOWN);
      due("17: not told, " + width, x.track(0, 0), UNKNOWN);
      due("19: its PULSES are in no GROUP that is told, " + width, x.many(9), 0);
      x.pulse(1, 111 + width, 0);
      due("8: TIME and WIDTH are less than EDGE, " + width, x.many(7), 1);
      group("SHUT", x, 0, 100, 1, 1, 0, 0);
      due("19: its PULSES, " + width, x.many(9), 1);
    }
  }

  /** "EDGE: the HORIZON less the greatest LAG of all PLANES", also of those without PULSES. */
  private static void greatestLagOfAllPlanes() {
    CounterHouse x = with(10, 5);
    x.plane(4, 30, 0, 0);
    x.plane(5, 29, 0, 0);
    each(x, 100).pulse(1, 145, 0);
    due("8: 105 is not less than 145 less 10 less 30", x.many(7), 0);
    x.pulse(1, 146, 0);
    due("8: 105 is less than 146 less 10 less 30", x.many(7), 1);
  }

  /** "pulses close together made groups, each once, as soon as nothing can come to them any more". */
  private static void eachOnce() {
    CounterHouse x = each(with(10, 5), 100, 103);
    x.pulse(2, 116, 0);
    due("8: it is SHUT at EDGE 106", x.many(7), 1);
    group("once SHUT", x, 0, 100, 3, 2, 0, 3);
    x.pulse(3, 106, 0);
    x.pulse(3, 130, 0);
    group("later ones leave it", x, 0, 100, 3, 2, 0, 3);
    group("one at EDGE begins the next", x, 1, 106, 8, 1, 0, 0);
    x.end();
    group("the end leaves it", x, 0, 100, 3, 2, 0, 3);
    group("the end leaves the next", x, 1, 106, 8, 1, 0, 0);
    due("8: and those that the end SHUTS", x.many(7), 4);
    group("by the end", x, 3, 130, 8, 1, 0, 0);
  }

  /** As long as a PULSE can come to it, it does. */
  private static void nothingCanComeToThem() {
    CounterHouse x = each(with(10, 5), 100);
    x.pulse(2, 115, 0);
    due("8: not SHUT at EDGE 105", x.many(7), 0);
    due("5: one comes at the HORIZON", x.pulse(1, 105, 0), 1);
    x.pulse(2, 116, 0);
    group("with the one that came", x, 0, 100, 3, 2, 0, 5);
  }

  private static void deadenedOnesAreInNone() {
    CounterHouse x = with(100, 5);
    x.plane(0, 0, 3, 0);
    x.pulse(0, 50, 0);
    x.pulse(0, 52, 0);
    x.pulse(0, 53, 0);
    x.end();
    group("LIVE ones alone", x, 0, 50, 1, 2, 1, 3);
    due("19: PULSES in GROUPS", x.many(9), 2);
  }

  /** "MEMBERS: of each PLANE the first one in the GROUP; others are SPARE". */
  private static void spareOnes() {
    CounterHouse x = each(with(0, 0), 9, 9, 9, 9, 9, 9);
    x.end();
    group("of each PLANE one", x, 0, 9, 63, 6, 0, 0);
    x.anew();
    for (int i = 0; i < 240; i++) x.pulse(5, 9999, i % 16);
    x.end();
    group("240 of one PLANE", x, 0, 9999, 32, 240, 239, 0);
  }

  // ---- promise 9

  private static void numbersOfMembers() {
    CounterHouse x = new CounterHouse();
    x.plane(0, 30, 0, 0);
    x.pulse(0, 0, 15);
    x.pulse(5, 9999, 0);
    x.end();
    due("9: MOMENT 0, of which the LAG is not taken off", x.member(0, 0, 0), 0);
    due("9: strip 15", x.member(0, 0, 1), 15);
    due("9: MOMENT 9999", x.member(1, 5, 0), 9999);
    due("9: strip 0", x.member(1, 5, 1), 0);
    due("9: GROUP -1", x.member(-1, 0, 0), UNKNOWN);
    due("9: GROUP 2 of two", x.member(2, 0, 0), UNKNOWN);
    due("9: PLANE -1", x.member(0, -1, 0), UNKNOWN);
    due("9: PLANE 6", x.member(0, 6, 0), UNKNOWN);
    due("9: what -1", x.member(0, 0, -1), OUTSIDE);
    due("9: what 2", x.member(0, 0, 2), OUTSIDE);
    due("9: UNKNOWN GROUP ahead of OUTSIDE", x.member(2, 0, 2), UNKNOWN);
    due("9: UNKNOWN PLANE ahead of OUTSIDE", x.member(0, 6, 2), UNKNOWN);
  }

  /** "of each PLANE the first one in the GROUP", in the order by TIME, then PLANE, then strip. */
  private static void firstOneIsTheMember() {
    CounterHouse x = with(100, 5);
    x.pulse(2, 51, 0);
    x.pulse(2, 50, 9);
    x.pulse(2, 50, 8);
    x.pulse(2, 55, 1);
    x.pulse(1, 52, 4);
    x.pulse(1, 52, 3);
    x.end();
    due("9: the least TIME", x.member(0, 2, 0), 50);
    due("9: of these the least strip", x.member(0, 2, 1), 8);
    due("9: of another PLANE too", x.member(0, 1, 1), 3);
    x.anew();
    x.pulse(2, 50, 9);
    x.pulse(2, 56, 1);
    x.end();
    due("9: the first one in its GROUP", x.member(1, 2, 0), 56);
  }

  /** "NONE: it has none". */
  private static void noMember() {
    CounterHouse x = each(with(0, 0), 10, 11);
    x.end();
    due("9: in the GROUP behind it", x.member(0, 1, 0), NONE);
    due("9: in the GROUP ahead of it", x.member(1, 0, 1), NONE);
    due("9: in none", x.member(0, 5, 0), NONE);
    due("9: OUTSIDE ahead of NONE", x.member(0, 1, 2), OUTSIDE);
  }

  // ---- promise 10

  /** "OUTSIDE: set (0 .. 63), how". */
  private static void sets() {
    CounterHouse x = with(20, 5);
    for (int k = 0; k < 6; k++) x.pulse(k, 100, 0);
    x.pulse(0, 200, 0);
    x.pulse(5, 300, 0);
    x.pulse(0, 400, 0);
    x.pulse(1, 400, 0);
    due("10: three are SHUT: just 1", x.having(1, 0), 1);
    x.end();
    int[][] want = {{0, 0, 4, 4}, {1, 1, 3, 1}, {2, 0, 2, 2}, {3, 1, 2, 1}, {32, 1, 2, 2}, {33, 0, 1, 0}, {63, 1, 1, 0},
        {62, 0, 1, 1}, {28, 0, 1, 3}};
    for (int[] w : want) {
      for (int how = 0; how <= 2; how++) due("10: having(" + w[0] + ", " + how + ")", x.having(w[0], how), w[how + 1]);
    }
    due("10: set -1", x.having(-1, 0), OUTSIDE);
    due("10: set 64", x.having(64, 0), OUTSIDE);
    due("10: how -1", x.having(0, -1), OUTSIDE);
    due("10: how 3", x.having(63, 3), OUTSIDE);
  }

  private static void setsOfNoGroups() {
    CounterHouse x = new CounterHouse();
    x.end();
    for (int how = 0; how <= 2; how++) {
      due("10: of no GROUPS: having(0, " + how + ")", x.having(0, how), 0);
      due("10: of no GROUPS: having(63, " + how + ")", x.having(63, how), 0);
    }
    for (int n = 1; n <= 6; n++) due("11: of no GROUPS: folds(" + n + ")", x.folds(n), 0);
  }

  // ---- promise 11

  /** "n PLANES (1 .. 6). OUTSIDE". */
  private static void numbersOfFolds() {
    CounterHouse x = with(20, 5);
    for (int n = 1; n <= 6; n++) for (int k = 0; k < n; k++) x.pulse(5 - k, 100 * n, 0);
    x.pulse(0, 700, 0);
    x.pulse(0, 700, 1);
    due("11: the last one is not SHUT", x.folds(1), 1);
    x.end();
    due("11: n 0", x.folds(0), OUTSIDE);
    due("11: n 7", x.folds(7), OUTSIDE);
    due("11: PLANES, not PULSES", x.folds(1), 2);
    for (int n = 2; n <= 6; n++) due("11: folds(" + n + ")", x.folds(n), 1);
  }

  /** "It is a COINCIDENCE, if these are FOLD or more". */
  private static void foldItself() {
    for (int fold = 2; fold <= 6; fold++) {
      CounterHouse x = with(20, 5);
      x.tune(2, fold);
      for (int k = 0; k < fold - 1; k++) {
        x.pulse(k, 100, 0);
        x.pulse(k, 101, 0);
      }
      x.end();
      due("19: one PLANE less than FOLD " + fold, x.many(8), 0);
      due("12: one PLANE less than FOLD " + fold, x.shifted(0, 0), 0);
      x.anew();
      for (int k = 0; k < fold; k++) x.pulse(k, 100, 0);
      x.end();
      due("19: just FOLD " + fold, x.many(8), 1);
      due("12: just FOLD " + fold, x.shifted(0, 0), 1);
    }
  }
}
