import java.util.Arrays;

/** Part 4 of the document, promises 17 to 19: a test for each sentence that names a boundary case. */
public final class TrackLimitsTest {
  private static final int UNKNOWN = -1, OUTSIDE = -2, NONE = -9, NO = -1;

  private static void due(String call, long got, long want) { Due.due(call, got, want); }

  /** A PULSE of each PLANE from 0 on, on the strip that is told for it; none for NO. */
  private static void tell(CounterHouse x, int moment, int... strips) {
    for (int k = 0; k < strips.length; k++) if (strips[k] != NO) x.pulse(k, moment, strips[k]);
  }

  private static CounterHouse house(int fold, int slack) {
    CounterHouse x = new CounterHouse();
    x.tune(2, fold);
    x.tune(3, slack);
    return x;
  }

  /** A house that has ENDED, with one GROUP. */
  private static CounterHouse group(int fold, int slack, int... strips) {
    CounterHouse x = house(fold, slack);
    tell(x, 50, strips);
    x.end();
    return x;
  }

  private static void track(String when, CounterHouse x, int a, int b, int set, int misses) {
    int[] want = {a, b + 10, Integer.bitCount(set), set, misses};
    for (int w = 0; w < 5; w++) due("17: " + when + ": track(0, " + w + ")", x.track(0, w), want[w]);
    due("19: " + when + ": GROUPS with a TRACK", x.many(10), 1);
    due("18: " + when + ": it is at a at PLANE 0", x.through(0, a), 1);
  }

  private static void noTrack(String when, CounterHouse x) {
    for (int w = 0; w < 5; w++) due("17: " + when + ": track(0, " + w + ")", x.track(0, w), NONE);
    due("19: " + when + ": GROUPS with a TRACK", x.many(10), 0);
    for (int k = 0; k < 6; k++) {
      for (int s = 0; s < 16; s++) due("18: " + when + ": through(" + k + ", " + s + ")", x.through(k, s), 0);
    }
  }

  public static void main(String[] args) {
    startsOfLines();
    slopesOfLines();
    slackItself();
    missesTogether();
    foldItself();
    linesBeyondTheStrips();
    mostMembers();
    leastMisses();
    slopeNearerToZero();
    lesserSlope();
    leastStart();
    numbersOfTrack();
    trackOfShutGroupsAlone();
    numbersOfThrough();
    throughOfNone();
    throughAtEachPlane();
    numbersOfMany();
    manyOfAnEmptyRun();
    manyOfAFullRun();
    Due.close();
  }

  // ---- promise 17

  /** "a 0 .. 15". */
  private static void startsOfLines() {
    track("a 0", group(2, 0, NO, 1, 2), 0, 1, 6, 0);
    noTrack("a would be -1", group(2, 0, NO, 0, 1));
    noTrack("a would be -1, down", group(2, 0, NO, 2, 5));
    track("a 15", group(2, 0, NO, 14, 13), 15, -1, 6, 0);
    noTrack("a would be 16", group(2, 0, NO, 15, 14));
    noTrack("a would be 16, by 3", group(2, 0, NO, 13, 10));
    track("a 0, level", group(2, 0, 0, 0), 0, 0, 3, 0);
    track("a 15, level", group(2, 0, 15, 15), 15, 0, 3, 0);
  }

  /** "b -3 .. 3". */
  private static void slopesOfLines() {
    track("b 3", group(2, 0, 2, 5), 2, 3, 3, 0);
    track("b -3", group(2, 0, 5, 2), 5, -3, 3, 0);
    noTrack("b would be 4", group(2, 0, 2, 6));
    noTrack("b would be -4", group(2, 0, 6, 2));
    noTrack("b would be no whole number", group(2, 0, 2, NO, 3));
    track("b 3 up to PLANE 5", group(2, 0, 0, NO, NO, NO, NO, 15), 0, 3, 33, 0);
    track("b -3 down to PLANE 5", group(2, 0, 15, NO, NO, NO, NO, 0), 15, -3, 33, 0);
  }

  /** "It AGREES with a MEMBER .. on a strip that is not more than SLACK away from that". */
  private static void slackItself() {
    // a LINE of b 3 gets to 3 at PLANE 1, so strip 3 and SLACK and SLACK are the most that one can have
    for (int slack = 0; slack <= 3; slack++) {
      track("just SLACK " + slack + " away at both", group(2, slack, 0, 3 + 2 * slack), slack, 3, 3, 2 * slack);
      noTrack("more than SLACK " + slack + " away", group(2, slack, 0, 4 + 2 * slack));
      track("just SLACK " + slack + " away, down", group(2, slack, 3 + 2 * slack, 0), 3 + slack, -3, 3, 2 * slack);
      noTrack("more than SLACK " + slack + " away, down", group(2, slack, 4 + 2 * slack, 0));
    }
  }

  /** "4 their MISSES together", of those MEMBERS with which it AGREES, and of no others. */
  private static void missesTogether() {
    track("none", group(2, 3, 4, 4, 4, 4, 4, 4), 4, 0, 63, 0);
    track("one of 3", group(6, 3, 4, 4, 4, 4, 4, 7), 4, 0, 63, 3);
    track("4 away from a level LINE: 1, 0, 1, 3, 0", group(5, 3, 4, 4, 4, NO, 4, 8), 3, 1, 55, 5);
    track("not that of a MEMBER beyond SLACK", group(2, 0, 4, 4, 4, 9, 4, 0), 4, 0, 23, 0);
  }

  /** "A GROUP has a TRACK, if that AGREES with FOLD MEMBERS at least". */
  private static void foldItself() {
    int[] level = {7, 7, 7, 7, 7, 7};
    for (int fold = 2; fold <= 6; fold++) {
      int[] some = Arrays.copyOf(level, fold);
      track("just FOLD " + fold, group(fold, 0, some), 7, 0, (1 << fold) - 1, 0);
      noTrack("one MEMBER less than FOLD " + fold, group(fold, 0, Arrays.copyOf(level, fold - 1)));
      some[0] = 15;
      some[1] = 7;
      CounterHouse x = group(fold, 0, some);
      noTrack("one that AGREES less than FOLD " + fold, x);
      due("19: a COINCIDENCE, though, with FOLD " + fold, x.many(8), 1);
    }
    CounterHouse y = house(2, 0);
    y.pulse(0, 50, 7);
    y.pulse(0, 51, 7);
    y.end();
    noTrack("a MEMBER and a SPARE one", y);
  }

  /** A LINE is at a and b times k, also where that is no strip. */
  private static void linesBeyondTheStrips() {
    CounterHouse x = group(5, 3, 9, 6, 3, 0, 0);
    track("-3 at PLANE 4 AGREES with strip 0", x, 9, -3, 31, 3);
    due("18: it is at no strip there", x.through(4, 0), 0);
    CounterHouse y = group(5, 3, 6, 9, 12, 15, 15);
    track("18 at PLANE 4 AGREES with strip 15", y, 6, 3, 31, 3);
    due("18: it is at no strip there", y.through(4, 15), 0);
  }

  /** "the LINE that AGREES with the most MEMBERS". */
  private static void mostMembers() {
    track("three ahead of two", group(2, 0, 5, 9, 5, 1, 5, 2), 5, 0, 21, 0);
    track("three up ahead of two level", group(2, 0, 4, 4, 10, 13, 4), 4, 0, 19, 0);
    track("four with 2 ahead of three with no MISSES", group(2, 1, 4, 4, 4, 6), 3, 1, 15, 2);
    track("more MEMBERS ahead of b nearer to 0", group(2, 0, 0, 3, 6, 0), 0, 3, 7, 0);
  }

  /** "of several that with the least MISSES (of those with which it AGREES) together". */
  private static void leastMisses() {
    track("0 ahead of 1, with b farther from 0", group(2, 1, 5, 6), 5, 1, 3, 0);
    track("0 ahead of more, with the greatest b", group(2, 3, 5, 8), 5, 3, 3, 0);
    track("0 ahead of 1, with the greater a", group(2, 1, 5, 5), 5, 0, 3, 0);
    track("1 ahead of 2, with the lesser of two a", group(3, 1, 5, 6, 8), 5, 1, 7, 1);
  }

  /** "of these that with b nearer to 0". */
  private static void slopeNearerToZero() {
    track("b 0 ahead of b 1, both with 1", group(2, 1, 5, NO, 6), 5, 0, 5, 1);
    track("b 0 ahead of b -1, both with 1", group(2, 1, 6, NO, 5), 5, 0, 5, 1);
    track("b 0 ahead of b 1 with the lesser a, both with 1", group(3, 1, 5, 6, 6), 6, 0, 7, 1);
    track("b 1 ahead of b -2, and of b 3 with the lesser a", group(2, 0, 2, 3, NO, 9, 7), 2, 1, 3, 0);
    track("b -1 ahead of b 2 with the lesser a", group(2, 0, 0, 2, NO, 10, 9), 13, -1, 24, 0);
    track("b 2 ahead of b -3", group(2, 0, 3, 5, NO, 4, 1), 3, 2, 3, 0);
    track("b -2 ahead of b 3 with the lesser a", group(2, 0, 0, 3, NO, 4, 2), 10, -2, 24, 0);
  }

  /** "of two as near the lesser b". */
  private static void lesserSlope() {
    track("-1 ahead of 1 with the lesser a", group(2, 0, 2, 3, NO, 9, 8), 12, -1, 24, 0);
    track("-2 ahead of 2 with the lesser a", group(2, 0, 2, 4, NO, 7, 5), 13, -2, 24, 0);
    track("-3 ahead of 3 with the lesser a", group(2, 0, 0, 3, NO, 4, 1), 13, -3, 24, 0);
  }

  /** "of these the least a". */
  private static void leastStart() {
    track("of two level ones the lower", group(2, 0, 9, 9, 5, 5), 5, 0, 12, 0);
    track("of two that share the MISSES", group(2, 1, 5, NO, 6), 5, 0, 5, 1);
    track("of two up", group(2, 0, 8, 9, 3, 4), 1, 1, 12, 0);
  }

  private static void numbersOfTrack() {
    CounterHouse x = new CounterHouse();
    due("17: GROUP 0 of none", x.track(0, 0), UNKNOWN);
    tell(x, 50, 3, 4);
    tell(x, 100, 3);
    x.end();
    due("17: GROUP -1", x.track(-1, 0), UNKNOWN);
    due("17: GROUP 2 of two", x.track(2, 0), UNKNOWN);
    due("17: what 0", x.track(0, 0), 3);
    due("17: what 4", x.track(0, 4), 0);
    due("17: what -1", x.track(0, -1), OUTSIDE);
    due("17: what 5", x.track(0, 5), OUTSIDE);
    due("17: UNKNOWN ahead of OUTSIDE", x.track(2, 5), UNKNOWN);
    for (int w = 0; w <= 4; w++) due("17: NONE", x.track(1, w), NONE);
    due("17: OUTSIDE ahead of NONE", x.track(1, -1), OUTSIDE);
    due("17: OUTSIDE ahead of NONE", x.track(1, 5), OUTSIDE);
  }

  private static void trackOfShutGroupsAlone() {
    CounterHouse x = new CounterHouse();
    x.tune(0, 10);
    tell(x, 50, 3, 4);
    x.pulse(5, 65, 0);
    due("17: not SHUT at EDGE 55", x.track(0, 0), UNKNOWN);
    due("18: not SHUT", x.through(0, 3), 0);
    due("19: not SHUT", x.many(10), 0);
    x.pulse(2, 55, 5);
    x.pulse(5, 66, 0);
    track("SHUT at EDGE 56, with one that came late", x, 3, 1, 7, 0);
  }

  // ---- promise 18

  /** "UNKNOWN: PLANE; OUTSIDE: strip". */
  private static void numbersOfThrough() {
    CounterHouse x = group(2, 0, 0, 3, 6, 9, 12, 15);
    due("18: strip 0 at PLANE 0", x.through(0, 0), 1);
    due("18: strip 15 at PLANE 5", x.through(5, 15), 1);
    due("18: strip -1", x.through(0, -1), OUTSIDE);
    due("18: strip 16", x.through(5, 16), OUTSIDE);
    due("18: PLANE -1", x.through(-1, 0), UNKNOWN);
    due("18: PLANE 6", x.through(6, 0), UNKNOWN);
    due("18: UNKNOWN ahead of OUTSIDE", x.through(6, 16), UNKNOWN);
    due("18: UNKNOWN ahead of OUTSIDE", x.through(-1, -1), UNKNOWN);
  }

  private static void throughOfNone() {
    CounterHouse x = new CounterHouse();
    due("18: of an empty RUN", x.through(0, 0), 0);
    x.end();
    due("18: of an empty RUN, ENDED", x.through(5, 15), 0);
    x.anew();
    tell(x, 50, 3, 3);
    x.end();
    due("18: one", x.through(4, 3), 1);
    x.anew();
    due("18: of a new RUN", x.through(4, 3), 0);
  }

  /** "a TRACK that is at a strip (0 .. 15) at a PLANE", whether there is a MEMBER or not. */
  private static void throughAtEachPlane() {
    CounterHouse x = house(2, 1);
    tell(x, 100, 15, 12);
    tell(x, 200, 3, NO, 4);
    tell(x, 300, 0, NO, NO, 9);
    tell(x, 400, 2, 15);
    x.end();
    // the LINES 15, -3 and 3, 0 (which misses PLANE 2 by 1) and 0, 3; the last GROUP has none
    int[][] want = {{15, 3, 0}, {12, 3, 3}, {9, 3, 6}, {6, 3, 9}, {3, 3, 12}, {0, 3, 15}};
    for (int k = 0; k < 6; k++) {
      for (int s = 0; s < 16; s++) {
        int count = 0;
        for (int at : want[k]) if (at == s) count++;
        due("18: through(" + k + ", " + s + ")", x.through(k, s), count);
      }
    }
    CounterHouse y = house(2, 0);
    for (int i = 0; i < 120; i++) tell(y, 41 * i, 7, 7);
    y.end();
    due("18: the most TRACKS", y.through(5, 7), 120);
    due("19: the most TRACKS", y.many(10), 120);
    due("19: the most COINCIDENCES", y.many(8), 120);
  }

  // ---- promise 19

  /** The numbers of what, 0 .. 12. */
  private static void numbersOfMany() {
    CounterHouse x = new CounterHouse();
    due("19: what -1", x.many(-1), OUTSIDE);
    due("19: what 13", x.many(13), OUTSIDE);
    due("19: what 12", x.many(12), 1000);
    x.end();
    due("19: what -1, ENDED", x.many(-1), OUTSIDE);
    due("19: what 13, ENDED", x.many(13), OUTSIDE);
  }

  private static void many(String when, CounterHouse x, int... want) {
    for (int w = 0; w <= 12; w++) due("19: " + when + ": many(" + w + ")", x.many(w), want[w]);
  }

  private static void manyOfAnEmptyRun() {
    CounterHouse x = new CounterHouse();
    x.plane(3, 30, 0, 0);
    many("an empty RUN", x, 0, 0, 0, 0, 0, 0, 0, 0, 0, 0, 0, 1000, 970);
    x.end();
    many("an empty RUN that has ENDED", x, 0, 0, 0, 0, 0, 0, 0, 0, 0, 0, 0, 22000, 21970);
    x.anew();
    many("a new RUN", x, 0, 0, 0, 0, 0, 0, 0, 0, 0, 0, 0, 1000, 970);
    x.pulse(3, 0, 0);
    many("one PULSE at MOMENT 0", x, 1, 0, 1, 0, 0, 0, 0, 0, 0, 0, 0, 1980, 1950);
    x.end();
    many("one PULSE, ENDED", x, 1, 0, 1, 1, 1, 0, 1, 1, 0, 1, 0, 22000, 21970);
  }

  private static void manyOfAFullRun() {
    CounterHouse x = new CounterHouse();
    x.tune(0, 0);
    x.tune(1, 0);
    x.plane(0, 0, 1, 0);
    // at each MOMENT two of PLANE 0, of which the second one is DEADENED, and two of PLANE 1, 2 strips above them
    for (int i = 0; i < 240; i++) x.pulse(i / 2 % 2, 9000 + i / 4, i % 16);
    many("full", x, 240, 0, 240, 236, 177, 59, 177, 59, 59, 177, 59, 11059, 11059);
    due("5: one more", x.pulse(0, 9999, 0), -4);
    due("5: a late one more", x.pulse(0, 9058, 0), 0);
    many("full, and one TOO LATE", x, 241, 1, 240, 236, 177, 59, 177, 59, 59, 177, 59, 11059, 11059);
    due("6: those at LATEST", x.end(), 4);
    many("full and ENDED", x, 241, 1, 240, 240, 180, 60, 180, 60, 60, 180, 60, 22000, 22000);
  }
}
