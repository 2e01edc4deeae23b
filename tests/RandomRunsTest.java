import java.util.Random;

/** All promises at once: long runs of calls, the same for CounterHouse and for PlainHouse, with seeds that never change. */
public final class RandomRunsTest {
  private static final int RUNS = 400, CALLS = 512;
  private static final int[] FAR_OFF = {-1, 6, 16, 64, 241, 501, 10000, -201, Integer.MIN_VALUE, Integer.MAX_VALUE};

  private final Random random;
  private final CounterHouse house = new CounterHouse();
  private final PlainHouse plain = new PlainHouse();
  private final String name;
  /** How far moments go on from pulse to pulse, and how far they are out of order. */
  private final int pace, disorder;
  private final int setupCalls, pulsesInHundred, endsInThousand, wrongInHundred;
  private int now = 0;
  private int calls = 0;

  private RandomRunsTest(int seed) {
    random = new Random(seed);
    name = "run " + seed + ": ";
    pace = new int[] {0, 1, 3, 8, 30, 150}[random.nextInt(6)];
    disorder = new int[] {0, 4, 20, 60}[random.nextInt(4)];
    setupCalls = random.nextInt(14);
    pulsesInHundred = new int[] {30, 50, 70, 90}[random.nextInt(4)];
    endsInThousand = new int[] {0, 3, 10}[random.nextInt(3)];
    wrongInHundred = new int[] {0, 1, 5}[random.nextInt(3)];
  }

  public static void main(String[] args) {
    for (int seed = 1; seed <= RUNS; seed++) new RandomRunsTest(seed).run();
    Due.close();
  }

  private void run() {
    for (int i = 0; i < setupCalls; i++) setUp();
    int endAt = random.nextInt(4) == 0 ? CALLS : 200 + random.nextInt(250);
    // a step makes two calls at the most
    for (int i = setupCalls; calls + 2 <= CALLS; i++) {
      if (i == endAt) end();
      else if (random.nextInt(1000) < endsInThousand) restart();
      else if (random.nextInt(100) < 3) setUp();
      else if (random.nextInt(100) < pulsesInHundred && i < endAt) pulse();
      else ask();
    }
  }

  /** A number from least to most; now and then one beyond. */
  private int from(int least, int most) {
    if (random.nextInt(100) < wrongInHundred) return FAR_OFF[random.nextInt(FAR_OFF.length)];
    if (random.nextInt(100) < wrongInHundred) return random.nextBoolean() ? least - 1 : most + 1;
    return least + random.nextInt(most - least + 1);
  }

  private void due(String call, long got, long want, long... args) {
    StringBuilder told = new StringBuilder(name).append(call).append('(');
    calls++;
    for (int i = 0; i < args.length; i++) told.append(i == 0 ? "" : ", ").append(args[i]);
    Due.due(told.append(')').toString(), got, want);
  }

  private void setUp() {
    if (random.nextInt(3) > 0) {
      int k = from(0, 5), lag = from(0, 30), dead = from(0, random.nextBoolean() ? 50 : 5), manner = from(0, 1);
      due("plane", house.plane(k, lag, dead, manner), plain.plane(k, lag, dead, manner), k, lag, dead, manner);
    } else {
      int which = from(0, 3);
      int v = from(which == 2 ? 2 : 0, which == 0 ? 100 : which == 1 ? 40 : which == 2 ? 6 : 3);
      due("tune", house.tune(which, v), plain.tune(which, v), which, v);
    }
  }

  private void restart() {
    if (random.nextBoolean()) end();
    due("anew", house.anew(), plain.anew());
    now = 0;
  }

  private void end() { due("end", house.end(), plain.end()); }

  private void pulse() {
    if (pace > 0) now = Math.min(9999, now + random.nextInt(pace + 1));
    int moment = now - (disorder > 0 ? random.nextInt(disorder + 1) : 0);
    if (random.nextInt(100) >= wrongInHundred) moment = Math.max(0, moment);
    int k = from(0, 5), strip = from(0, 15);
    due("pulse", house.pulse(k, moment, strip), plain.pulse(k, moment, strip), k, moment, strip);
  }

  private int someGroup() { return from(0, Math.max(0, plain.many(7) - random.nextInt(2))); }

  private void ask() {
    switch (random.nextInt(14)) {
      case 0: { int k = from(0, 5), w = from(0, 5); due("ofPlane", house.ofPlane(k, w), plain.ofPlane(k, w), k, w); break; }
      case 1: { int g = someGroup(), w = from(0, 4); due("group", house.group(g, w), plain.group(g, w), g, w); break; }
      case 2: {
        int g = someGroup(), p = from(0, 5), w = from(0, 1);
        due("member", house.member(g, p, w), plain.member(g, p, w), g, p, w);
        break;
      }
      case 3: { int s = from(0, 63), h = from(0, 2); due("having", house.having(s, h), plain.having(s, h), s, h); break; }
      case 4: { int n = from(1, 6); due("folds", house.folds(n), plain.folds(n), n); break; }
      case 5: {
        int s = from(0, 63), by = from(0, random.nextBoolean() ? 500 : 40);
        due("shifted", house.shifted(s, by), plain.shifted(s, by), s, by);
        break;
      }
      case 6: {
        int a = from(0, 5), b = from(0, 5), most = random.nextBoolean() ? 200 : 5, d = from(-most, most);
        due("twos", house.twos(a, b, d), plain.twos(a, b, d), a, b, d);
        break;
      }
      case 7: { int k = from(0, 5); due("live", house.live(k), plain.live(k), k); break; }
      case 8: { int k = from(0, 5), w = from(0, 1); due("rate", house.rate(k, w), plain.rate(k, w), k, w); break; }
      case 9: {
        int a = from(0, 5), b = from(0, 5), w = from(0, 1);
        due("expected", house.expected(a, b, w), plain.expected(a, b, w), a, b, w);
        break;
      }
      case 10:
      case 11: { int g = someGroup(), w = from(0, 4); due("track", house.track(g, w), plain.track(g, w), g, w); break; }
      case 12: { int k = from(0, 5), s = from(0, 15); due("through", house.through(k, s), plain.through(k, s), k, s); break; }
      default: { int w = from(0, 12); due("many", house.many(w), plain.many(w), w); }
    }
  }
}
