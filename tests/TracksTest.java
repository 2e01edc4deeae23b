/** Promises 17 to 19: track, through, many. */
public final class TracksTest {
  private static void due(String call, long got, long want) { Due.due(call, got, want); }

  /** A GROUP of one PULSE of each PLANE from 0 on, on the strip that is told for it; none for -1. */
  private static void tell(CounterHouse x, int moment, int... strips) {
    for (int k = 0; k < strips.length; k++) if (strips[k] >= 0) x.pulse(k, moment, strips[k]);
  }

  private static CounterHouse house(int fold, int slack, int... strips) {
    CounterHouse x = new CounterHouse();
    x.tune(2, fold);
    x.tune(3, slack);
    tell(x, 50, strips);
    x.end();
    return x;
  }

  private static void track(String when, CounterHouse x, int a, int b, int set, int misses) {
    int[] want = {a, b + 10, Integer.bitCount(set), set, misses};
    for (int w = 0; w < 5; w++) due(when + ": track(0, " + w + ")", x.track(0, w), want[w]);
    due(when + ": many(10)", x.many(10), 1);
  }

  private static void noTrack(String when, CounterHouse x) {
    for (int w = 0; w < 5; w++) due(when + ": track(0, " + w + ")", x.track(0, w), -9);
    due(when + ": many(10)", x.many(10), 0);
    due(when + ": many(7)", x.many(7), 1);
  }

  public static void main(String[] args) {
    linesWithoutSlack();
    whichOfSeveral();
    slack();
    folds();
    membersAlone();
    refusals();
    through();
    many();
    Due.close();
  }

  // promise 17
  private static void linesWithoutSlack() {
    track("up", house(2, 0, 3, 4, 5, 6, 7, 8), 3, 1, 63, 0);
    track("steepest up", house(2, 0, 0, 3, 6, 9, 12, 15), 0, 3, 63, 0);
    track("steepest down", house(2, 0, 15, 12, 9, 6, 3, 0), 15, -3, 63, 0);
    track("2 up", house(2, 0, -1, 3, 5, -1, 9), 1, 2, 22, 0);
    track("2 down", house(2, 0, -1, 13, 11, -1, 7), 15, -2, 22, 0);
    track("level at 15", house(2, 0, 15, -1, -1, -1, -1, 15), 15, 0, 33, 0);
    noTrack("too steep", house(2, 0, 0, 4, -1, -1, -1, -1));
    noTrack("a would be -9", house(2, 0, -1, -1, -1, 0, 3, 6));
    noTrack("a would be 16", house(2, 0, -1, 15, 14, -1, -1, -1));
  }

  private static void whichOfSeveral() {
    track("most MEMBERS", house(2, 0, 5, 9, 5, 1, 5, 2), 5, 0, 21, 0);
    track("one MEMBER more", house(2, 0, 4, 4, 6, 7), 4, 1, 13, 0);
    track("most MEMBERS ahead of the least MISSES", house(2, 2, 3, 4, 5, 9, 7, 8), 4, 1, 63, 7);
    track("least MISSES ahead of b nearer to 0", house(2, 1, 5, 6), 5, 1, 3, 0);
    track("b nearer to 0", house(2, 3, 1, -1, -1, -1, 3), 1, 0, 17, 2);
    track("b nearer to 0, not the lesser", house(2, 0, 2, 3, -1, 9, 7), 2, 1, 3, 0);
    track("of two as near the lesser b", house(2, 0, 2, 3, -1, 9, 8), 12, -1, 24, 0);
    track("the least a", house(2, 0, 5, 5, 9, 9), 5, 0, 3, 0);
  }

  private static void slack() {
    track("SLACK 0", house(2, 0, 3, 4, 5, 9, 7, 8), 3, 1, 55, 0);
    track("SLACK 3", house(2, 3, 3, 4, 5, 9, 7, 8), 3, 1, 63, 3);
    track("SLACK 3, no other LINE", house(2, 3, 0, 9), 3, 3, 3, 6);
    noTrack("SLACK 2 is too little for that", house(2, 2, 0, 9));
    track("a LINE may be below strip 0", house(2, 3, 9, 6, 3, 0, 0), 9, -3, 31, 3);
    due("and is at no strip there", house(2, 3, 9, 6, 3, 0, 0).through(4, 0), 0);
  }

  private static void folds() {
    noTrack("one MEMBER", house(2, 0, -1, -1, 7));
    noTrack("FOLD 3, two MEMBERS", house(3, 0, 4, 4));
    track("FOLD 3, three", house(3, 0, 4, 4, 4), 4, 0, 7, 0);
    CounterHouse x = house(3, 0, 4, 4, 9);
    noTrack("FOLD 3, a COINCIDENCE, but two on a LINE", x);
    due("it is a COINCIDENCE", x.many(8), 1);
    track("FOLD 6", house(6, 0, 1, 1, 1, 1, 1, 1), 1, 0, 63, 0);
    noTrack("FOLD 6, five", house(6, 0, 1, 1, 1, 1, 1));
  }

  private static void membersAlone() {
    CounterHouse x = new CounterHouse();
    x.tune(3, 0);
    x.pulse(0, 50, 3);
    x.pulse(0, 51, 8);
    x.pulse(1, 50, 8);
    x.end();
    noTrack("a SPARE one is on no LINE", x);
    CounterHouse y = new CounterHouse();
    y.tune(3, 0);
    y.plane(0, 2, 0, 0);
    y.pulse(0, 50, 3);
    y.pulse(0, 51, 8);
    y.pulse(1, 48, 3);
    y.end();
    track("the first one is the MEMBER", y, 3, 0, 3, 0);
  }

  private static void refusals() {
    CounterHouse x = house(2, 0, 1, 9);
    due("track(1, 0)", x.track(1, 0), -1);
    due("track(-1, 0)", x.track(-1, 0), -1);
    due("track(1, 5)", x.track(1, 5), -1);
    due("track(0, 5), ahead of NONE", x.track(0, 5), -2);
    due("track(0, -1), ahead of NONE", x.track(0, -1), -2);
    due("track(0, 4)", x.track(0, 4), -9);
    due("through(6, 16)", x.through(6, 16), -1);
    due("through(-1, 0)", x.through(-1, 0), -1);
    due("through(0, 16)", x.through(0, 16), -2);
    due("through(0, -1)", x.through(0, -1), -2);
    due("many(13)", x.many(13), -2);
    due("many(-1)", x.many(-1), -2);
    due("many(MIN)", x.many(Integer.MIN_VALUE), -2);
  }

  // promise 18
  private static void through() {
    CounterHouse x = new CounterHouse();
    x.tune(3, 0);
    tell(x, 100, 2, 3, 4);
    tell(x, 200, 7, 6, 5);
    tell(x, 300, 5, 15);
    tell(x, 400, 12, 13, 14);
    due("all but the last one SHUT", x.many(7), 3);
    due("of those with a TRACK alone", x.through(0, 5), 0);
    due("PLANE 0, strip 2", x.through(0, 2), 1);
    due("PLANE 0, strip 12: not SHUT", x.through(0, 12), 0);
    due("PLANE 2, strip 4", x.through(2, 4), 1);
    due("PLANE 2, strip 5", x.through(2, 5), 1);
    due("PLANE 5, without MEMBERS, strip 7", x.through(5, 7), 1);
    due("PLANE 5, strip 2", x.through(5, 2), 1);
    due("PLANE 5, strip 0", x.through(5, 0), 0);
    x.end();
    due("PLANE 0, strip 12", x.through(0, 12), 1);
    due("PLANE 3, strip 15", x.through(3, 15), 1);
    due("PLANE 4 is beyond 15", x.through(4, 15), 0);
    x.anew();
    due("none in a new RUN", x.through(0, 2), 0);
    tell(x, 100, 2, 2);
    tell(x, 200, 2, 2);
    x.end();
    due("two GROUPS", x.through(4, 2), 2);
  }

  // promise 19
  private static void many() {
    CounterHouse x = new CounterHouse();
    x.plane(0, 1, 30, 0);
    x.plane(4, 9, 0, 0);
    tell(x, 100, 2, 3, 4);
    x.pulse(0, 105, 2);
    tell(x, 140, 1, 9);
    x.pulse(3, 119, 9);
    x.pulse(5, 160, 0);
    x.pulse(5, 160, 0);
    // HORIZON 140, EDGE 131: those at 140 are not SETTLED
    int[] ahead = {9, 1, 8, 4, 3, 1, 3, 1, 1, 3, 1, 2140, 2131};
    for (int w = 0; w < ahead.length; w++) due("ahead of the end: many(" + w + ")", x.many(w), ahead[w]);
    x.pulse(5, 168, 0);
    // HORIZON 148, EDGE 139: of those at 140 the one with LAG 1 has TIME 139
    int[] later = {10, 1, 9, 6, 5, 1, 3, 1, 1, 3, 1, 2148, 2139};
    for (int w = 0; w < later.length; w++) due("later: many(" + w + ")", x.many(w), later[w]);
    due("end()", x.end(), 3);
    int[] atEnd = {10, 1, 9, 9, 8, 1, 8, 4, 2, 8, 1, 22000, 21991};
    for (int w = 0; w < atEnd.length; w++) due("ENDED: many(" + w + ")", x.many(w), atEnd[w]);
  }
}
