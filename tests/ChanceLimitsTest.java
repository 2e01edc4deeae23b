/** Part 3 of the document, promises 12 to 16: a test for each sentence that names a boundary case. */
public final class ChanceLimitsTest {
  private static final int UNKNOWN = -1, OUTSIDE = -2, STATE = -3;
  private static final long LOST = Long.MIN_VALUE;

  private static void due(String call, long got, long want) { Due.due(call, got, want); }

  /** A house with BOUND 100, and PLANE 0 with a DEAD time and a MANNER. */
  private static CounterHouse with(int dead, int manner) {
    CounterHouse x = new CounterHouse();
    x.tune(0, 100);
    x.plane(0, 0, dead, manner);
    return x;
  }

  private static CounterHouse tell(CounterHouse x, int plane, int... moments) {
    for (int m : moments) x.pulse(plane, m, 0);
    return x;
  }

  /** PULSES as twos of a PLANE and a MOMENT, for RUNS that are longer than the BOUND. */
  private static CounterHouse pairs(CounterHouse x, int... planesAndMoments) {
    for (int i = 0; i + 1 < planesAndMoments.length; i += 2) x.pulse(planesAndMoments[i], planesAndMoments[i + 1], 0);
    return x;
  }

  public static void main(String[] args) {
    numbersOfShifted();
    shiftedByNothing();
    shiftedByTheMost();
    shiftedToTheWidth();
    shiftedOfNone();
    shiftedWithAllKnown();
    shiftedAlone();
    numbersOfTwos();
    twosOfKnownOnes();
    twosAtTheMost();
    liveBeforeTheEnd();
    liveOfNone();
    liveOfShortSpans();
    liveUpToLatest();
    liveOfStiff();
    liveOfStretched();
    numbersOfRate();
    rateOfNothing();
    rateInLeastTerms();
    numbersOfExpected();
    expectedOfNothing();
    expectedByWidth();
    expectedAtTheMost();
    Due.close();
  }

  // ---- promise 12

  /** "PLANES of a set so much (0 .. 500) more. OUTSIDE; STATE: the RUN has not ENDED". */
  private static void numbersOfShifted() {
    CounterHouse x = with(0, 0);
    due("12: nothing told, not ENDED", x.shifted(0, 0), STATE);
    tell(tell(x, 0, 100), 1, 100);
    due("12: not ENDED", x.shifted(63, 500), STATE);
    due("12: set -1 ahead of STATE", x.shifted(-1, 0), OUTSIDE);
    due("12: set 64 ahead of STATE", x.shifted(64, 0), OUTSIDE);
    due("12: by -1 ahead of STATE", x.shifted(0, -1), OUTSIDE);
    due("12: by 501 ahead of STATE", x.shifted(0, 501), OUTSIDE);
    x.end();
    due("12: set -1", x.shifted(-1, 0), OUTSIDE);
    due("12: set 64", x.shifted(64, 0), OUTSIDE);
    due("12: by -1", x.shifted(0, -1), OUTSIDE);
    due("12: by 501", x.shifted(0, 501), OUTSIDE);
    due("12: set 0 by 0", x.shifted(0, 0), 1);
    due("12: set 63 by 500", x.shifted(63, 500), 1);
    due("12: set 32 by 500, of no PULSES", x.shifted(32, 500), 1);
  }

  private static void shiftedByNothing() {
    CounterHouse x = with(0, 0);
    pairs(x, 0, 100, 1, 105, 0, 200, 1, 206, 1, 295, 0, 300).end();
    due("12: GROUPS as they are", x.many(8), 2);
    int[] sets = {0, 1, 2, 3, 62, 63};
    for (int set : sets) due("12: set " + set + " by 0", x.shifted(set, 0), 2);
    due("12: no PLANES by 500", x.shifted(0, 500), 2);
    due("12: all PLANES by 1", x.shifted(63, 1), 2);
    due("12: all PLANES by 500", x.shifted(63, 500), 2);
  }

  private static void shiftedByTheMost() {
    CounterHouse x = with(0, 0);
    pairs(x, 0, 0, 5, 500, 5, 9499, 0, 9999).end();
    due("12: as they are", x.shifted(0, 0), 0);
    due("12: 0 by 500 is at 500", x.shifted(1, 500), 1);
    due("12: 9499 by 500 is at 9999", x.shifted(32, 500), 1);
    due("12: both by 500", x.shifted(33, 500), 0);
    due("12: 0 by 494", x.shifted(1, 494), 0);
    due("12: 0 by 495, WIDTH 5 below", x.shifted(1, 495), 1);
  }

  /** GROUPS by WIDTH: just WIDTH above the first one, and one more. */
  private static void shiftedToTheWidth() {
    int[] widths = {0, 5, 40};
    for (int width : widths) {
      CounterHouse x = with(0, 0);
      x.tune(1, width);
      tell(tell(x, 0, 200), 1, 300).end();
      due("12: one too little, " + width, x.shifted(1, 99 - width), 0);
      due("12: just WIDTH below, " + width, x.shifted(1, 100 - width), 1);
      due("12: just WIDTH above, " + width, x.shifted(1, 100 + width), 1);
      due("12: one too much, " + width, x.shifted(1, 101 + width), 0);
    }
  }

  private static void shiftedOfNone() {
    CounterHouse x = with(0, 0);
    x.end();
    due("12: none KEPT", x.shifted(0, 0), 0);
    due("12: none KEPT, all moved", x.shifted(63, 500), 0);
  }

  /** "of all KNOWN ones", and of no others. */
  private static void shiftedWithAllKnown() {
    CounterHouse x = with(10, 0);
    x.plane(1, 30, 0, 0);
    tell(tell(x, 0, 100, 109), 1, 149).end();
    due("12: TIME 100 and TIME 119", x.shifted(0, 0), 0);
    due("12: 100 by 14", x.shifted(1, 14), 1);
    due("12: a DEADENED one is not moved", x.shifted(1, 10), 0);
    x.anew();
    tell(tell(x, 0, 9999), 1, 9999).end();
    due("12: at LATEST: TIME 9999 and TIME 9969", x.shifted(2, 30), 1);
    x.anew();
    for (int i = 0; i < 240; i++) x.pulse(1 + i % 5, 41 * i, 0);
    x.end();
    due("12: 240 PULSES, those of PLANES 1, 3, 5 by 41 less LAG", x.shifted(0, 0), 0);
    due("12: PLANE 1 as if it had no LAG", x.shifted(2, 30), 0);
    due("12: PLANE 1 by LAG and 41", x.shifted(2, 71), 48);
  }

  private static void shiftedAlone() {
    CounterHouse x = with(0, 0);
    tell(tell(x, 0, 100), 1, 100).end();
    due("12: PLANE 0 by 500", x.shifted(1, 500), 0);
    due("12: GROUPS are left", x.many(7), 1);
    due("12: COINCIDENCES are left", x.many(8), 1);
    due("12: TIME is left", x.group(0, 0), 200);
    due("12: MEMBERS are left", x.member(0, 0, 0), 100);
    due("12: and the next one is anew", x.shifted(0, 0), 1);
    due("13: twos are left", x.twos(0, 1, 0), 1);
  }

  // ---- promise 13

  /** "d (-200 .. 200). UNKNOWN; OUTSIDE; STATE: the two PLANES are one". */
  private static void numbersOfTwos() {
    CounterHouse x = with(0, 0);
    pairs(x, 0, 100, 0, 300, 5, 300, 0, 500).end();
    due("13: d -200", x.twos(0, 5, -200), 1);
    due("13: d 200", x.twos(0, 5, 200), 1);
    due("13: d 0", x.twos(0, 5, 0), 1);
    due("13: d 199", x.twos(0, 5, 199), 0);
    due("13: d -199", x.twos(0, 5, -199), 0);
    due("13: the other way", x.twos(5, 0, 200), 1);
    due("13: d -201", x.twos(0, 5, -201), OUTSIDE);
    due("13: d 201", x.twos(0, 5, 201), OUTSIDE);
    due("13: a -1", x.twos(-1, 5, 0), UNKNOWN);
    due("13: a 6", x.twos(6, 5, 0), UNKNOWN);
    due("13: b -1", x.twos(0, -1, 0), UNKNOWN);
    due("13: b 6", x.twos(0, 6, 0), UNKNOWN);
    due("13: one PLANE", x.twos(0, 0, 200), STATE);
    due("13: one PLANE without PULSES", x.twos(3, 3, 0), STATE);
    due("13: OUTSIDE ahead of STATE", x.twos(0, 0, 201), OUTSIDE);
    due("13: UNKNOWN ahead of OUTSIDE", x.twos(0, 6, 201), UNKNOWN);
    due("13: UNKNOWN ahead of STATE", x.twos(6, 6, 0), UNKNOWN);
  }

  /** "KNOWN PULSES .. with TIME of that of b less TIME of that of a being d". */
  private static void twosOfKnownOnes() {
    CounterHouse x = new CounterHouse();
    due("13: of an empty RUN", x.twos(0, 1, 0), 0);
    x.plane(1, 30, 0, 0);
    x.tune(0, 0);
    tell(tell(x, 0, 100), 1, 130);
    x.pulse(2, 130, 0);
    due("13: EDGE 100: TIME 100 is not KNOWN", x.twos(0, 1, 0), 0);
    x.pulse(2, 131, 0);
    due("13: EDGE 101: it is, ahead of the end", x.twos(0, 1, 0), 1);
    due("13: by TIME, not by MOMENT", x.twos(0, 1, 30), 0);
    x.anew();
    pairs(x, 0, 100, 2, 101, 3, 131);
    due("13: EDGE 101: one at it is LIVE", x.many(4), 2);
    due("13: b at EDGE", x.twos(0, 2, 1), 0);
    due("13: a at EDGE", x.twos(2, 0, -1), 0);
    x.pulse(3, 132, 0);
    due("13: b just below EDGE", x.twos(0, 2, 1), 1);
    due("13: a just below EDGE", x.twos(2, 0, -1), 1);
    x.anew();
    x.plane(0, 0, 10, 0);
    tell(tell(x, 0, 100, 109), 1, 139).end();
    due("13: not of a DEADENED one", x.twos(0, 1, 0), 0);
    due("13: of a LIVE one", x.twos(0, 1, 9), 1);
  }

  private static void twosAtTheMost() {
    CounterHouse x = new CounterHouse();
    for (int i = 0; i < 240; i++) x.pulse(i % 2, 9999, i % 16);
    due("13: none KNOWN", x.twos(0, 1, 0), 0);
    x.end();
    due("13: each with each", x.twos(0, 1, 0), 14400);
    due("13: each with each, the other way", x.twos(1, 0, 0), 14400);
    due("13: 1 apart", x.twos(0, 1, 1), 0);
    due("13: -1 apart", x.twos(0, 1, -1), 0);
  }

  // ---- promise 14

  /** "UNKNOWN; STATE: the RUN has not ENDED". */
  private static void liveBeforeTheEnd() {
    CounterHouse x = with(0, 0);
    due("14: nothing told", x.live(0), STATE);
    tell(x, 0, 5);
    due("14: not ENDED", x.live(0), STATE);
    due("14: -1 ahead of STATE", x.live(-1), UNKNOWN);
    due("14: 6 ahead of STATE", x.live(6), UNKNOWN);
    x.end();
    due("14: -1", x.live(-1), UNKNOWN);
    due("14: 6", x.live(6), UNKNOWN);
    due("14: PLANE 0", x.live(0), 6);
    due("14: PLANE 5", x.live(5), 6);
    x.anew();
    due("14: a new RUN", x.live(0), STATE);
  }

  /** "SPAN is LATEST and 1 (0, if none was KEPT)". */
  private static void liveOfNone() {
    for (int manner = 0; manner < 2; manner++) {
      CounterHouse x = with(50, manner);
      x.end();
      due("14: none KEPT, MANNER " + manner, x.live(0), 0);
    }
  }

  /** "whole numbers u of 0 .. LATEST", "m <= u < m and DEAD". */
  private static void liveOfShortSpans() {
    for (int manner = 0; manner < 2; manner++) {
      CounterHouse x = tell(with(0, manner), 0, 0);
      x.end();
      due("14: LATEST 0, DEAD 0", x.live(0), 1);
      x.anew();
      x.plane(0, 0, 1, manner);
      tell(x, 0, 0).end();
      due("14: LATEST 0, DEAD 1", x.live(0), 0);
      due("14: LATEST 0, no PULSE of it", x.live(1), 1);
      x.anew();
      tell(x, 0, 1).end();
      due("14: LATEST 1, DEAD 1: u 0", x.live(0), 1);
      x.anew();
      tell(tell(x, 0, 0), 1, 1).end();
      due("14: LATEST 1, DEAD 1: u 1", x.live(0), 1);
      x.anew();
      tell(tell(x, 0, 3, 3, 3), 1, 9).end();
      due("14: three at one MOMENT, DEAD 1", x.live(0), 9);
    }
  }

  private static void liveUpToLatest() {
    for (int manner = 0; manner < 2; manner++) {
      CounterHouse x = tell(with(50, manner), 0, 0);
      tell(x, 1, 49).end();
      due("14: dead up to LATEST itself", x.live(0), 0);
      x.anew();
      tell(tell(x, 0, 0), 1, 50).end();
      due("14: dead up to one below LATEST", x.live(0), 1);
      x.anew();
      tell(tell(x, 0, 30), 1, 40).end();
      due("14: dead beyond LATEST", x.live(0), 30);
      x.anew();
      tell(x, 0, 9999).end();
      due("14: dead at LATEST 9999", x.live(0), 9999);
      due("14: the greatest", x.live(1), 10000);
      x.anew();
      x.plane(0, 30, 50, manner);
      tell(tell(x, 0, 10), 1, 99).end();
      due("14: by MOMENT, not by TIME", x.live(0), 50);
    }
  }

  /** "of its LIVE ones, if it is STIFF". */
  private static void liveOfStiff() {
    CounterHouse x = tell(with(10, 0), 0, 20, 29, 30, 41);
    tell(x, 1, 99).end();
    due("14: 20 .. 29, 30 .. 39, 41 .. 50", x.live(0), 70);
    x.anew();
    tell(tell(x, 0, 20, 29), 1, 99).end();
    due("14: a DEADENED one takes none", x.live(0), 90);
  }

  /** "of all KEPT ones, if it is STRETCHED". */
  private static void liveOfStretched() {
    CounterHouse x = tell(with(10, 1), 0, 20, 29, 38);
    tell(x, 1, 99).end();
    due("14: 20 .. 47", x.live(0), 72);
    x.anew();
    tell(tell(x, 0, 20, 30), 1, 99).end();
    due("14: 20 .. 39, with nothing between", x.live(0), 80);
    x.anew();
    tell(tell(x, 0, 20, 31), 1, 99).end();
    due("14: 20 .. 29 and 31 .. 40: 30 between", x.live(0), 80);
    x.anew();
    tell(tell(x, 0, 38, 20, 29), 1, 99).end();
    due("14: told out of order", x.live(0), 72);
  }

  // ---- promise 15

  private static void rate(String when, CounterHouse x, int k, long upper, long lower) {
    due("15: " + when + ": upper", x.rate(k, 0), upper);
    due("15: " + when + ": lower", x.rate(k, 1), lower);
  }

  /** "LOST: UNKNOWN; OUTSIDE; STATE: the RUN has not ENDED, LIVE TIME is 0". */
  private static void numbersOfRate() {
    CounterHouse x = with(1, 0);
    rate("nothing told, not ENDED", x, 0, LOST, LOST);
    tell(x, 0, 0);
    rate("not ENDED", x, 1, LOST, LOST);
    x.end();
    rate("LIVE TIME 0", x, 0, LOST, LOST);
    rate("LIVE TIME 1", x, 1, 0, 1);
    rate("PLANE 5", x, 5, 0, 1);
    rate("PLANE 6", x, 6, LOST, LOST);
    rate("PLANE -1", x, -1, LOST, LOST);
    due("15: which -1", x.rate(1, -1), LOST);
    due("15: which 2", x.rate(1, 2), LOST);
  }

  /** "0 is 0 by 1"; SPAN 0. */
  private static void rateOfNothing() {
    CounterHouse x = with(0, 0);
    x.end();
    rate("none KEPT", x, 0, LOST, LOST);
    x.anew();
    tell(x, 1, 9999).end();
    rate("0 by 10000", x, 0, 0, 1);
    rate("1 by 10000", x, 1, 1, 10000);
  }

  /** "in least terms", "how many LIVE PULSES it has, by its LIVE TIME". */
  private static void rateInLeastTerms() {
    CounterHouse x = new CounterHouse();
    for (int i = 0; i < 240; i++) x.pulse(0, 0, i % 16);
    x.end();
    rate("240 by 1", x, 0, 240, 1);
    x.anew();
    for (int i = 0; i < 239; i++) x.pulse(0, 9999, i % 16);
    x.pulse(0, 9998, 0);
    x.end();
    rate("240 by 10000", x, 0, 3, 125);
    x.anew();
    x.plane(0, 0, 2, 0);
    tell(x, 0, 0, 1, 2, 3, 4, 12).end();
    rate("LIVE 0, 2, 4, 12 by 6 of 0 .. 12", x, 0, 2, 3);
    rate("0 by 13", x, 1, 0, 1);
    x.anew();
    tell(x, 0, 3, 5, 7).end();
    rate("3 by 3, told as 1 by 1", x, 0, 1, 1);
  }

  // ---- promise 16

  private static void expected(String when, CounterHouse x, int a, int b, long upper, long lower) {
    due("16: " + when + ": upper", x.expected(a, b, 0), upper);
    due("16: " + when + ": lower", x.expected(a, b, 1), lower);
  }

  /** "LOST: UNKNOWN; OUTSIDE; STATE: the two are one, the RUN has not ENDED, SPAN is 0". */
  private static void numbersOfExpected() {
    CounterHouse x = with(0, 0);
    expected("nothing told, not ENDED", x, 0, 1, LOST, LOST);
    tell(tell(x, 0, 0), 5, 0);
    expected("not ENDED", x, 0, 5, LOST, LOST);
    x.end();
    expected("SPAN 1", x, 0, 5, 11, 1);
    expected("the other way", x, 5, 0, 11, 1);
    expected("the two are one", x, 0, 0, LOST, LOST);
    expected("a -1", x, -1, 5, LOST, LOST);
    expected("a 6", x, 6, 5, LOST, LOST);
    expected("b -1", x, 0, -1, LOST, LOST);
    expected("b 6", x, 0, 6, LOST, LOST);
    due("16: which -1", x.expected(0, 5, -1), LOST);
    due("16: which 2", x.expected(0, 5, 2), LOST);
  }

  private static void expectedOfNothing() {
    CounterHouse x = with(0, 0);
    x.end();
    expected("SPAN 0", x, 0, 1, LOST, LOST);
    x.anew();
    tell(x, 0, 9999).end();
    expected("0 by 10000", x, 0, 1, 0, 1);
    expected("0 by 10000, the other way", x, 1, 0, 0, 1);
    expected("0 by 10000, none of both", x, 2, 3, 0, 1);
    x.anew();
    x.plane(0, 0, 1, 0);
    tell(tell(x, 0, 0), 1, 0).end();
    expected("by SPAN, also where LIVE TIME is 0", x, 0, 1, 11, 1);
  }

  /** "(2 times WIDTH, and 1)". */
  private static void expectedByWidth() {
    int[][] widths = {{0, 1, 10}, {1, 3, 10}, {2, 1, 2}, {5, 11, 10}, {40, 81, 10}};
    for (int[] w : widths) {
      CounterHouse x = with(0, 0);
      x.tune(1, w[0]);
      tell(tell(x, 0, 4), 1, 9).end();
      expected("WIDTH " + w[0] + " by SPAN 10", x, 0, 1, w[1], w[2]);
    }
  }

  private static CounterHouse full(int dead, int moment) {
    CounterHouse x = with(dead, 0);
    x.tune(1, 40);
    for (int i = 0; i < 240; i++) x.pulse(i % 2, moment, i % 16);
    x.end();
    return x;
  }

  private static void expectedAtTheMost() {
    expected("120 times 120 times 81 by 1", full(0, 0), 0, 1, 1166400, 1);
    expected("120 times 120 times 81 by 10000", full(0, 9999), 0, 1, 2916, 25);
    expected("LIVE ones: 1 times 120 times 81 by 10000", full(50, 9999), 0, 1, 243, 250);
  }
}
