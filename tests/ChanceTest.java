/** Promises 12 to 16: shifted, twos, live, rate, expected. */
public final class ChanceTest {
  private static final long LOST = Long.MIN_VALUE;

  private static void due(String call, long got, long want) { Due.due(call, got, want); }

  public static void main(String[] args) {
    shifted();
    twos();
    liveTimes();
    rates();
    expected();
    Due.close();
  }

  // promise 12
  private static void shifted() {
    CounterHouse x = new CounterHouse();
    x.plane(2, 3, 0, 0);
    due("not ENDED", x.shifted(0, 0), -3);
    due("OUTSIDE ahead of STATE", x.shifted(64, 0), -2);
    x.pulse(0, 100, 0);
    x.pulse(1, 103, 0);
    x.pulse(0, 130, 0);
    x.pulse(2, 163, 0);
    x.end();
    due("as it is", x.shifted(0, 0), 1);
    due("as it is, with all moved", x.shifted(63, 500), 1);
    due("PLANE 0 by 8: 103 and 108", x.shifted(1, 8), 1);
    due("PLANE 0 by 9", x.shifted(1, 9), 0);
    due("PLANE 0 by 30: 160 by LAG", x.shifted(1, 30), 1);
    due("PLANES 0 and 1 by 30: 130, 133 and 160, 160", x.shifted(3, 30), 2);
    due("PLANE 1 by 27: at 130", x.shifted(2, 27), 1);
    due("PLANE 1 by 33: 133 and 136", x.shifted(2, 33), 0);
    due("PLANES of none of the PULSES", x.shifted(56, 7), 1);
    due("real GROUPS are left", x.many(8), 1);
    due("real GROUPS are left", x.group(0, 4), 3);
    due("set -1", x.shifted(-1, 0), -2);
    due("set 64", x.shifted(64, 0), -2);
    due("by -1", x.shifted(0, -1), -2);
    due("by 501", x.shifted(0, 501), -2);

    CounterHouse y = new CounterHouse();
    y.tune(2, 3);
    y.tune(1, 0);
    y.plane(1, 0, 50, 0);
    for (int k = 0; k < 3; k++) y.pulse(k, 10 - k, 0);
    y.pulse(1, 40, 0);
    y.end();
    due("FOLD 3", y.shifted(0, 0), 0);
    due("PLANE 1 by 1", y.shifted(2, 1), 0);
    y.anew();
    y.pulse(0, 10, 0);
    y.pulse(1, 9, 0);
    y.pulse(2, 10, 0);
    y.pulse(3, 50, 0);
    y.pulse(4, 50, 0);
    y.pulse(1, 49, 0);
    y.end();
    due("only LIVE ones are moved", y.shifted(2, 1), 1);
    y.anew();
    y.end();
    due("of none", y.shifted(63, 3), 0);
  }

  // promise 13
  private static void twos() {
    CounterHouse x = new CounterHouse();
    x.plane(1, 10, 0, 0);
    int[][] told = {{0, 100}, {0, 100}, {1, 110}, {0, 110}, {1, 115}, {1, 120}, {0, 300}, {1, 310}, {1, 310}};
    x.tune(0, 100);
    for (int[] t : told) x.pulse(t[0], t[1], 0);
    due("KNOWN ones alone, ahead of the end", x.twos(0, 1, 0), 3);
    x.end();
    due("0 apart", x.twos(0, 1, 0), 5);
    due("5 apart", x.twos(0, 1, 5), 2);
    due("10 apart", x.twos(0, 1, 10), 2);
    due("-5 apart", x.twos(0, 1, -5), 1);
    due("-10 apart", x.twos(0, 1, -10), 1);
    due("200 apart", x.twos(0, 1, 200), 4);
    due("-200 apart", x.twos(0, 1, -200), 1);
    due("-200 apart, the other way", x.twos(1, 0, -200), 4);
    due("of a PLANE without PULSES", x.twos(0, 2, 0), 0);
    due("201 apart", x.twos(0, 1, 201), -2);
    due("-201 apart", x.twos(0, 1, -201), -2);
    due("one PLANE", x.twos(1, 1, 0), -3);
    due("OUTSIDE ahead of STATE", x.twos(1, 1, 201), -2);
    due("a UNKNOWN", x.twos(6, 1, 201), -1);
    due("b UNKNOWN", x.twos(1, -1, 0), -1);
    due("both UNKNOWN", x.twos(6, 6, 0), -1);
    due("d MIN", x.twos(0, 1, Integer.MIN_VALUE), -2);
  }

  // promise 14
  private static void liveTimes() {
    CounterHouse x = new CounterHouse();
    x.plane(0, 7, 10, 0);
    x.plane(1, 7, 10, 1);
    due("not ENDED", x.live(0), -3);
    due("UNKNOWN ahead of STATE", x.live(6), -1);
    due("PLANE -1", x.live(-1), -1);
    x.tune(0, 100);
    int[] moments = {5, 12, 15, 40, 45};
    for (int m : moments) {
      x.pulse(0, m, 0);
      x.pulse(1, m, 0);
    }
    x.pulse(2, 46, 0);
    x.end();
    // STIFF: dead at 5..24 and 40..46 of 0..46; STRETCHED: at 5..24 and 40..46 as well
    due("STIFF", x.live(0), 20);
    due("STRETCHED", x.live(1), 20);
    due("DEAD 0", x.live(2), 47);
    due("no PULSES", x.live(3), 47);
    x.anew();
    int[] stretching = {0, 9, 18, 27, 99};
    for (int m : stretching) {
      x.pulse(0, m, 0);
      x.pulse(1, m, 0);
    }
    x.end();
    due("STIFF: dead at 0..9, 18..27, 99", x.live(0), 79);
    due("STRETCHED: dead at 0..36, 99", x.live(1), 62);
    x.anew();
    x.end();
    due("none KEPT", x.live(0), 0);
    x.anew();
    x.pulse(4, 0, 0);
    x.end();
    due("LATEST 0", x.live(3), 1);
  }

  private static void rate(CounterHouse x, String when, int k, long upper, long lower) {
    due(when + ": upper", x.rate(k, 0), upper);
    due(when + ": lower", x.rate(k, 1), lower);
  }

  // promise 15
  private static void rates() {
    CounterHouse x = new CounterHouse();
    x.plane(1, 0, 50, 0);
    rate(x, "not ENDED", 0, LOST, LOST);
    x.tune(0, 100);
    int[] moments = {1, 2, 3, 4};
    for (int m : moments) x.pulse(0, m, 0);
    x.pulse(1, 0, 0);
    x.pulse(1, 5, 0);
    x.pulse(2, 5, 0);
    x.end();
    rate(x, "4 by 6", 0, 2, 3);
    rate(x, "LIVE TIME 0", 1, LOST, LOST);
    rate(x, "1 by 6", 2, 1, 6);
    rate(x, "0 by 1", 3, 0, 1);
    due("which 2", x.rate(0, 2), LOST);
    due("which -1", x.rate(0, -1), LOST);
    due("PLANE 6", x.rate(6, 0), LOST);
    due("PLANE -1", x.rate(-1, 0), LOST);
    x.anew();
    x.plane(1, 0, 2, 0);
    int[] more = {0, 1, 2, 8};
    for (int m : more) x.pulse(1, m, 0);
    x.pulse(0, 8, 0);
    x.pulse(0, 8, 1);
    x.end();
    rate(x, "LIVE ones by LIVE TIME: 3 by 4", 1, 3, 4);
    rate(x, "2 by 9", 0, 2, 9);
    x.anew();
    x.end();
    rate(x, "SPAN 0", 0, LOST, LOST);
  }

  private static void expected(CounterHouse x, String when, int a, int b, long upper, long lower) {
    due(when + ": upper", x.expected(a, b, 0), upper);
    due(when + ": lower", x.expected(a, b, 1), lower);
  }

  // promise 16
  private static void expected() {
    CounterHouse x = new CounterHouse();
    x.plane(1, 0, 10, 0);
    x.tune(1, 4);
    x.tune(0, 100);
    expected(x, "not ENDED", 0, 1, LOST, LOST);
    for (int m = 0; m < 4; m++) x.pulse(0, m, 0);
    for (int m = 0; m < 30; m += 5) x.pulse(1, m, 0);
    x.pulse(2, 29, 0);
    x.end();
    expected(x, "4 times 3 times 9 by 30", 0, 1, 18, 5);
    expected(x, "the other way", 1, 0, 18, 5);
    expected(x, "1 times 3 times 9 by 30", 2, 1, 9, 10);
    expected(x, "0 by 1", 0, 3, 0, 1);
    expected(x, "one PLANE", 1, 1, LOST, LOST);
    expected(x, "PLANE 6", 6, 0, LOST, LOST);
    expected(x, "PLANE -1", 0, -1, LOST, LOST);
    due("which 2", x.expected(0, 1, 2), LOST);
    due("which -1", x.expected(0, 1, -1), LOST);
    x.anew();
    x.tune(1, 40);
    for (int i = 0; i < 240; i++) x.pulse(i % 2 * 2, 0, 0);
    x.end();
    expected(x, "the most by SPAN 1", 0, 2, 120 * 120 * 81, 1);
    x.anew();
    x.end();
    expected(x, "SPAN 0", 0, 1, LOST, LOST);
  }
}
