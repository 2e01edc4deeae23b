/** Promises 8 to 11: group, member, having, folds. */
public final class GroupsTest {
  private static void due(String call, long got, long want) { Due.due(call, got, want); }

  private static void group(CounterHouse x, int k, int time, int set, int pulses, int spare, int length) {
    int[] want = {time + 100, set, pulses, spare, length};
    for (int w = 0; w < 5; w++) due("group(" + k + ", " + w + ")", x.group(k, w), want[w]);
  }

  public static void main(String[] args) {
    widths();
    shutting();
    lagsAndMembers();
    refusals();
    setsAndFolds();
    manyOfGroups();
    nothingIsLeftInANewRun();
    asManyAsCanBe();
    Due.close();
  }

  // promise 8
  private static void widths() {
    CounterHouse x = new CounterHouse();
    int[] moments = {100, 105, 106, 111, 112, 118};
    for (int i = 0; i < 6; i++) x.pulse(i % 2, moments[i], i);
    x.end();
    due("GROUPS by the first one, not by the last", x.many(7), 4);
    group(x, 0, 100, 3, 2, 0, 5);
    group(x, 1, 106, 3, 2, 0, 5);
    group(x, 2, 112, 1, 1, 0, 0);
    group(x, 3, 118, 2, 1, 0, 0);
    x.anew();
    x.tune(1, 6);
    for (int i = 0; i < 6; i++) x.pulse(i % 2, moments[i], i);
    x.end();
    due("GROUPS with WIDTH 6", x.many(7), 3);
    group(x, 0, 100, 3, 3, 1, 6);
    group(x, 1, 111, 3, 2, 0, 1);
    group(x, 2, 118, 2, 1, 0, 0);
    x.anew();
    x.tune(1, 0);
    x.pulse(3, 7, 1);
    x.pulse(3, 7, 1);
    x.pulse(3, 8, 1);
    x.end();
    group(x, 0, 7, 8, 2, 1, 0);
    group(x, 1, 8, 8, 1, 0, 0);
  }

  private static void shutting() {
    CounterHouse x = new CounterHouse();
    x.tune(0, 10);
    x.plane(5, 4, 0, 0);
    due("EDGE by the LAG of PLANE 5", x.many(12), 996);
    x.plane(0, 6, 0, 0);
    due("EDGE by the LAG of PLANE 0", x.many(12), 994);
    x.plane(0, 0, 0, 0);
    x.pulse(0, 100, 0);
    // EDGE is LATEST less 10 less 4; the GROUP is SHUT once 105 is less
    x.pulse(1, 119, 0);
    due("EDGE 105", x.many(12), 2105);
    due("not SHUT", x.many(7), 0);
    due("but KNOWN", x.many(6), 1);
    due("not told", x.group(0, 0), -1);
    x.pulse(1, 120, 0);
    due("SHUT", x.many(7), 1);
    group(x, 0, 100, 1, 1, 0, 0);
    due("GROUPS that follow are not told", x.group(1, 0), -1);
    x.end();
    group(x, 0, 100, 1, 1, 0, 0);
    group(x, 1, 119, 2, 2, 1, 1);

    CounterHouse y = new CounterHouse();
    y.tune(0, 0);
    y.pulse(0, 50, 0);
    y.pulse(0, 51, 0);
    due("SETTLED, but not KNOWN at the EDGE itself", y.many(6), 1);
    y.pulse(0, 56, 0);
    due("50 and 5 are not less than 56 less 0: 55 is", y.many(7), 1);
    group(y, 0, 50, 1, 2, 1, 1);
  }

  // promise 9
  private static void lagsAndMembers() {
    CounterHouse x = new CounterHouse();
    x.plane(0, 30, 0, 0);
    x.plane(3, 10, 0, 0);
    x.tune(0, 100);
    x.pulse(3, 11, 4);
    x.pulse(3, 11, 2);
    x.pulse(3, 10, 9);
    x.pulse(1, 2, 7);
    x.pulse(0, 0, 6);
    x.pulse(0, 29, 5);
    x.end();
    due("GROUPS", x.many(7), 2);
    group(x, 0, -30, 1, 1, 0, 0);
    group(x, 1, -1, 11, 5, 2, 3);
    due("MOMENT, not TIME", x.member(0, 0, 0), 0);
    due("strip", x.member(0, 0, 1), 6);
    due("first by TIME", x.member(1, 3, 0), 10);
    due("its strip", x.member(1, 3, 1), 9);
    due("of PLANE 0", x.member(1, 0, 0), 29);
    due("of PLANE 1", x.member(1, 1, 1), 7);
    due("NONE of PLANE 2", x.member(1, 2, 0), -9);
    due("NONE of PLANE 5", x.member(1, 5, 1), -9);
    due("GROUP 2", x.member(2, 0, 0), -1);
    due("GROUP -1", x.member(-1, 0, 0), -1);
    due("PLANE 6", x.member(0, 6, 0), -1);
    due("PLANE -1", x.member(0, -1, 5), -1);
    due("what 2", x.member(0, 1, 2), -2);
    due("what -1 ahead of NONE", x.member(0, 1, -1), -2);

    CounterHouse y = new CounterHouse();
    y.pulse(2, 40, 9);
    y.pulse(2, 40, 3);
    y.end();
    due("of two at one TIME the lesser strip", y.member(0, 2, 1), 3);
  }

  private static void refusals() {
    CounterHouse x = new CounterHouse();
    x.pulse(0, 1, 1);
    x.end();
    due("group(0, 5)", x.group(0, 5), -2);
    due("group(0, -1)", x.group(0, -1), -2);
    due("group(1, 5)", x.group(1, 5), -1);
    due("group(-1, 0)", x.group(-1, 0), -1);
    due("group(MAX, 0)", x.group(Integer.MAX_VALUE, 0), -1);
    due("group(MIN, 0)", x.group(Integer.MIN_VALUE, 0), -1);
    due("having(-1, 0)", x.having(-1, 0), -2);
    due("having(64, 0)", x.having(64, 0), -2);
    due("having(0, -1)", x.having(0, -1), -2);
    due("having(0, 3)", x.having(0, 3), -2);
    due("folds(0)", x.folds(0), -2);
    due("folds(7)", x.folds(7), -2);
  }

  // promises 10 and 11
  private static void setsAndFolds() {
    CounterHouse x = new CounterHouse();
    int[] sets = {1, 3, 3, 7, 8, 63, 12, 32};
    for (int i = 0; i < sets.length; i++) {
      for (int k = 0; k < 6; k++) if ((sets[i] >> k & 1) == 1) x.pulse(k, 100 + 20 * i, 0);
    }
    x.end();
    due("having(3, 0)", x.having(3, 0), 2);
    due("having(2, 0)", x.having(2, 0), 0);
    due("having(63, 0)", x.having(63, 0), 1);
    due("having(0, 0)", x.having(0, 0), 0);
    due("having(3, 1)", x.having(3, 1), 4);
    due("having(8, 1)", x.having(8, 1), 3);
    due("having(0, 1)", x.having(0, 1), 8);
    due("having(3, 2)", x.having(3, 2), 3);
    due("having(40, 2)", x.having(40, 2), 4);
    due("having(0, 2)", x.having(0, 2), 8);
    due("having(63, 2)", x.having(63, 2), 0);
    int[] folds = {3, 3, 1, 0, 0, 1};
    for (int n = 1; n <= 6; n++) due("folds(" + n + ")", x.folds(n), folds[n - 1]);
  }

  // promise 19, of GROUPS
  private static void manyOfGroups() {
    CounterHouse x = new CounterHouse();
    x.tune(2, 3);
    int[] planes = {0, 1, 2, 0, 0, 1, 1};
    int[] moments = {10, 10, 11, 12, 30, 31, 60};
    for (int i = 0; i < 7; i++) x.pulse(planes[i], moments[i], 0);
    due("SETTLED", x.many(3), 6);
    due("LIVE", x.many(4), 6);
    due("KNOWN", x.many(6), 6);
    due("GROUPS", x.many(7), 2);
    due("COINCIDENCES with FOLD 3", x.many(8), 1);
    due("PULSES in GROUPS, SPARE ones too", x.many(9), 6);
    x.end();
    due("GROUPS", x.many(7), 3);
    due("COINCIDENCES", x.many(8), 1);
    due("PULSES in GROUPS", x.many(9), 7);
    x.anew();
    x.tune(2, 2);
    for (int i = 0; i < 7; i++) x.pulse(planes[i], moments[i], 0);
    due("COINCIDENCES with FOLD 2", x.many(8), 2);
  }

  private static void nothingIsLeftInANewRun() {
    CounterHouse x = new CounterHouse();
    for (int i = 0; i < 12; i++) x.pulse(i % 3, 100 + i / 3 * 20, 4);
    x.end();
    due("COINCIDENCES", x.many(8), 4);
    due("twos", x.twos(0, 1, 0), 4);
    x.anew();
    x.pulse(5, 300, 1);
    x.end();
    due("folds(3) in a new RUN", x.folds(3), 0);
    due("having(7, 1)", x.having(7, 1), 0);
    due("having(8, 2)", x.having(8, 2), 1);
    due("many(8)", x.many(8), 0);
    due("many(10)", x.many(10), 0);
    due("through(0, 4)", x.through(0, 4), 0);
    due("twos(0, 1, 0)", x.twos(0, 1, 0), 0);
    due("shifted(0, 0)", x.shifted(0, 0), 0);
    due("group(1, 0)", x.group(1, 0), -1);
    due("member(0, 1, 0)", x.member(0, 1, 0), -9);
    group(x, 0, 300, 32, 1, 0, 0);
  }

  private static void asManyAsCanBe() {
    CounterHouse x = new CounterHouse();
    for (int i = 0; i < 240; i++) x.pulse(i % 6, 41 * i, i % 16);
    due("end()", x.end(), 1);
    due("240 GROUPS", x.many(7), 240);
    group(x, 239, 41 * 239, 32, 1, 0, 0);
    due("the MEMBER of the last one", x.member(239, 5, 1), 15);
    due("its neighbour is in the GROUP ahead of it", x.member(239, 4, 0), -9);
    due("the next PLANE is in the GROUP behind it", x.member(238, 5, 0), -9);
    due("group(240, 0)", x.group(240, 0), -1);
    due("folds(1)", x.folds(1), 240);
    due("shifted(0, 0)", x.shifted(0, 0), 0);
    due("shifted(21, 41): all in twos", x.shifted(21, 41), 120);
    x.anew();
    for (int i = 0; i < 240; i++) x.pulse(i % 2, 77, i % 16);
    due("end()", x.end(), 240);
    due("one GROUP", x.many(7), 1);
    group(x, 0, 77, 3, 240, 238, 0);
    due("twos of all", x.twos(0, 1, 0), 120 * 120);
    due("twos beyond all", x.twos(0, 1, 200), 0);
    due("twos ahead of all", x.twos(1, 0, -200), 0);
    due("shifted(1, 1)", x.shifted(1, 1), 1);
    due("shifted(1, 6)", x.shifted(1, 6), 0);
  }
}
