import java.util.ArrayList;
import java.util.Comparator;
import java.util.List;

/**
 * The document once more, in its own order and words, with nothing kept but what was told: every answer is worked out
 * anew from all kept pulses. It shares no code and no way of counting with CounterHouse, so that the two can be compared.
 */
final class PlainHouse {
  static final int UNKNOWN = -1, OUTSIDE = -2, STATE = -3, FULL = -4, NONE = -9;
  static final long LOST = Long.MIN_VALUE;

  record Pulse(int plane, int moment, int strip) {}

  record Known(int plane, int time, int strip, int moment) {}

  record Line(int a, int b, int agrees, int set, int misses) {}

  private static final Comparator<Pulse> IN_ORDER =
      Comparator.comparingInt(Pulse::moment).thenComparingInt(Pulse::plane).thenComparingInt(Pulse::strip);
  private static final Comparator<Known> BY_TIME =
      Comparator.comparingInt(Known::time).thenComparingInt(Known::plane).thenComparingInt(Known::strip);
  private static final Comparator<Line> BEST_FIRST =
      Comparator.comparingInt((Line l) -> -l.agrees()).thenComparingInt(Line::misses)
          .thenComparingInt(l -> Math.abs(l.b())).thenComparingInt(Line::b).thenComparingInt(Line::a);

  private final int[] lag = new int[6], dead = new int[6], manner = new int[6];
  private int bound = 20, width = 5, fold = 2, slack = 1;
  private List<Pulse> kept = new ArrayList<>();
  private int late = 0;
  private boolean ended = false;

  // ---- terms

  private static boolean out(int v, int least, int most) { return v < least || v > most; }

  private int latest() { return kept.stream().mapToInt(Pulse::moment).max().orElse(-1); }

  private int horizon() { return ended ? 20000 : kept.isEmpty() ? -1000 : latest() - bound; }

  private int edge() {
    int most = 0;
    for (int l : lag) most = Math.max(most, l);
    return horizon() - most;
  }

  private List<Pulse> settled() {
    int horizon = horizon();
    return kept.stream().filter(p -> p.moment() < horizon).sorted(IN_ORDER).toList();
  }

  private List<Pulse> live() {
    List<Pulse> settled = settled();
    List<Pulse> all = new ArrayList<>();
    for (int k = 0; k < 6; k++) {
      int end = 0;
      for (Pulse p : settled) {
        if (p.plane() != k) continue;
        boolean isLive = p.moment() >= end;
        if (isLive) all.add(p);
        if (manner[k] == 1 || isLive) end = p.moment() + dead[k];
      }
    }
    return all;
  }

  private List<Known> known() {
    int edge = edge();
    return live().stream().map(p -> new Known(p.plane(), p.moment() - lag[p.plane()], p.strip(), p.moment()))
        .filter(p -> p.time() < edge).sorted(BY_TIME).toList();
  }

  private List<List<Known>> groupsOf(List<Known> pulses) {
    List<List<Known>> groups = new ArrayList<>();
    List<Known> left = new ArrayList<>(pulses);
    while (!left.isEmpty()) {
      int most = left.get(0).time() + width;
      groups.add(left.stream().filter(p -> p.time() <= most).toList());
      left.removeIf(p -> p.time() <= most);
    }
    return groups;
  }

  private List<List<Known>> groups() {
    int edge = edge();
    return groupsOf(known()).stream().filter(g -> g.get(0).time() + width < edge).toList();
  }

  private static Known memberOf(List<Known> group, int plane) {
    return group.stream().filter(p -> p.plane() == plane).findFirst().orElse(null);
  }

  private static int setOf(List<Known> group) { return group.stream().mapToInt(p -> 1 << p.plane()).reduce(0, (a, b) -> a | b); }

  private static int planesOf(List<Known> group) { return (int) group.stream().mapToInt(Known::plane).distinct().count(); }

  private Line trackOf(List<Known> group) {
    List<Line> lines = new ArrayList<>();
    for (int a = 0; a <= 15; a++) {
      for (int b = -3; b <= 3; b++) {
        int agrees = 0, set = 0, misses = 0;
        for (int k = 0; k < 6; k++) {
          Known m = memberOf(group, k);
          if (m == null) continue;
          int miss = Math.abs(m.strip() - (a + b * k));
          if (miss > slack) continue;
          agrees++;
          set += 1 << k;
          misses += miss;
        }
        lines.add(new Line(a, b, agrees, set, misses));
      }
    }
    Line best = lines.stream().min(BEST_FIRST).get();
    return best.agrees() >= fold ? best : null;
  }

  private int liveCount(int k) { return (int) live().stream().filter(p -> p.plane() == k).count(); }

  private int liveTime(int k) {
    List<Pulse> deafening = (manner[k] == 0 ? live() : kept).stream().filter(p -> p.plane() == k).toList();
    int count = 0;
    for (int u = 0; u <= latest(); u++) {
      final int at = u;
      if (deafening.stream().noneMatch(p -> p.moment() <= at && at < p.moment() + dead[k])) count++;
    }
    return count;
  }

  private static long reduced(long upper, long lower, int which) {
    if (upper == 0) return which == 0 ? 0 : 1;
    for (long d = Math.min(upper, lower); d > 1; d--) {
      if (upper % d == 0 && lower % d == 0) { upper /= d; lower /= d; }
    }
    return which == 0 ? upper : lower;
  }

  // ---- 1 planes, pulses

  int plane(int k, int l, int d, int m) {
    if (out(k, 0, 5)) return UNKNOWN;
    if (out(l, 0, 30) || out(d, 0, 50) || out(m, 0, 1)) return OUTSIDE;
    if (!kept.isEmpty() || ended) return STATE;
    lag[k] = l;
    dead[k] = d;
    manner[k] = m;
    return 1;
  }

  int ofPlane(int k, int what) {
    if (out(k, 0, 5)) return UNKNOWN;
    if (out(what, 0, 5)) return OUTSIDE;
    int settledOnes = (int) settled().stream().filter(p -> p.plane() == k).count();
    int keptOnes = (int) kept.stream().filter(p -> p.plane() == k).count();
    return new int[] {lag[k], dead[k], manner[k], keptOnes, liveCount(k), settledOnes - liveCount(k)}[what];
  }

  int tune(int which, int v) {
    if (out(which, 0, 3)) return OUTSIDE;
    if (out(v, which == 2 ? 2 : 0, new int[] {100, 40, 6, 3}[which])) return OUTSIDE;
    if (!kept.isEmpty() || ended) return STATE;
    int was;
    if (which == 0) { was = bound; bound = v; }
    else if (which == 1) { was = width; width = v; }
    else if (which == 2) { was = fold; fold = v; }
    else { was = slack; slack = v; }
    return was;
  }

  int pulse(int k, int moment, int strip) {
    if (out(k, 0, 5)) return UNKNOWN;
    if (out(moment, 0, 9999) || out(strip, 0, 15)) return OUTSIDE;
    if (ended) return STATE;
    if (moment < horizon()) { late++; return 0; }
    if (kept.size() == 240) return FULL;
    kept.add(new Pulse(k, moment, strip));
    return 1;
  }

  int end() {
    if (ended) return STATE;
    int open = kept.size() - settled().size();
    ended = true;
    return open;
  }

  int anew() {
    int n = kept.size();
    kept = new ArrayList<>();
    late = 0;
    ended = false;
    return n;
  }

  // ---- 2 groups

  int group(int k, int what) {
    List<List<Known>> groups = groups();
    if (out(k, 0, groups.size() - 1)) return UNKNOWN;
    if (out(what, 0, 4)) return OUTSIDE;
    List<Known> g = groups.get(k);
    int first = g.get(0).time();
    return new int[] {first + 100, setOf(g), g.size(), g.size() - planesOf(g), g.get(g.size() - 1).time() - first}[what];
  }

  int member(int k, int plane, int what) {
    List<List<Known>> groups = groups();
    if (out(k, 0, groups.size() - 1) || out(plane, 0, 5)) return UNKNOWN;
    if (out(what, 0, 1)) return OUTSIDE;
    Known m = memberOf(groups.get(k), plane);
    return m == null ? NONE : what == 0 ? m.moment() : m.strip();
  }

  int having(int set, int how) {
    if (out(set, 0, 63) || out(how, 0, 2)) return OUTSIDE;
    int n = 0;
    for (List<Known> g : groups()) {
      boolean just = true, all = true, none = true;
      for (int k = 0; k < 6; k++) {
        boolean asked = (set & 1 << k) != 0, there = memberOf(g, k) != null;
        if (asked != there) just = false;
        if (asked && !there) all = false;
        if (asked && there) none = false;
      }
      if (how == 0 ? just : how == 1 ? all : none) n++;
    }
    return n;
  }

  int folds(int n) {
    if (out(n, 1, 6)) return OUTSIDE;
    return (int) groups().stream().filter(g -> planesOf(g) == n).count();
  }

  // ---- 3 chance

  int shifted(int set, int by) {
    if (out(set, 0, 63) || out(by, 0, 500)) return OUTSIDE;
    if (!ended) return STATE;
    List<Known> moved = known().stream()
        .map(p -> new Known(p.plane(), p.time() + ((set >> p.plane() & 1) == 1 ? by : 0), p.strip(), p.moment()))
        .sorted(BY_TIME).toList();
    return (int) groupsOf(moved).stream().filter(g -> planesOf(g) >= fold).count();
  }

  int twos(int a, int b, int d) {
    if (out(a, 0, 5) || out(b, 0, 5)) return UNKNOWN;
    if (out(d, -200, 200)) return OUTSIDE;
    if (a == b) return STATE;
    int n = 0;
    List<Known> known = known();
    for (Known p : known) for (Known q : known) if (p.plane() == a && q.plane() == b && q.time() - p.time() == d) n++;
    return n;
  }

  int live(int k) { return out(k, 0, 5) ? UNKNOWN : !ended ? STATE : liveTime(k); }

  long rate(int k, int which) {
    if (out(k, 0, 5) || out(which, 0, 1) || !ended || liveTime(k) == 0) return LOST;
    return reduced(liveCount(k), liveTime(k), which);
  }

  long expected(int a, int b, int which) {
    if (out(a, 0, 5) || out(b, 0, 5) || out(which, 0, 1) || a == b || !ended || kept.isEmpty()) return LOST;
    return reduced((long) liveCount(a) * liveCount(b) * (2 * width + 1), latest() + 1, which);
  }

  // ---- 4 tracks

  int track(int k, int what) {
    List<List<Known>> groups = groups();
    if (out(k, 0, groups.size() - 1)) return UNKNOWN;
    if (out(what, 0, 4)) return OUTSIDE;
    Line l = trackOf(groups.get(k));
    return l == null ? NONE : new int[] {l.a(), l.b() + 10, l.agrees(), l.set(), l.misses()}[what];
  }

  int through(int k, int strip) {
    if (out(k, 0, 5)) return UNKNOWN;
    if (out(strip, 0, 15)) return OUTSIDE;
    return (int) groups().stream().map(this::trackOf).filter(l -> l != null && l.a() + l.b() * k == strip).count();
  }

  int many(int what) {
    switch (what) {
      case 0: return kept.size() + late;
      case 1: return late;
      case 2: return kept.size();
      case 3: return settled().size();
      case 4: return live().size();
      case 5: return settled().size() - live().size();
      case 6: return known().size();
      case 7: return groups().size();
      case 8: return (int) groups().stream().filter(g -> planesOf(g) >= fold).count();
      case 9: return groups().stream().mapToInt(List::size).sum();
      case 10: return (int) groups().stream().filter(g -> trackOf(g) != null).count();
      case 11: return horizon() + 2000;
      case 12: return edge() + 2000;
      default: return OUTSIDE;
    }
  }
}
