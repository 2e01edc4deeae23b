import java.util.ArrayList;
import java.util.Arrays;
import java.util.List;

/**
 * "REFUSALS, in the order in which a call's line tells them; they change nothing": each refused call of each promise, in
 * each state that a house can be in, with numbers just outside and far outside, one wrong number and two; and all that can
 * be asked afterwards answers as it does in a house that was told the same without the refused calls.
 */
public final class RefusalsTest {
  private static final long UNKNOWN = -1, OUTSIDE = -2, STATE = -3, FULL = -4, LOST = Long.MIN_VALUE;
  private static final int MOST_CALLS = 512;
  private static final int[] LEAST_OF_SETTING = {0, 0, 2, 0}, MOST_OF_SETTING = {100, 40, 6, 3};

  /** What a call takes at one place: some good numbers, and wrong ones (the first two just outside) with what is due. */
  private record Place(long due, int[] good, int[] wrong) {}

  private record State(String name, List<Call> calls, boolean begun, boolean ended, boolean full) {
    CounterHouse house() {
      CounterHouse x = new CounterHouse();
      for (Call c : calls) c.of(x);
      return x;
    }
  }

  private record Refused(Call call, long due) {}

  public static void main(String[] args) {
    for (State s : states()) {
      List<Long> want = answers(s.house());
      for (List<Refused> some : refusedIn(s)) changesNothing(s, some, want);
    }
    Due.close();
  }

  private static void changesNothing(State s, List<Refused> some, List<Long> want) {
    CounterHouse x = s.house();
    for (Refused r : some) Due.due(s.name() + ": " + r.call().told(), r.call().of(x), r.due());
    List<Call> questions = questions();
    int calls = s.calls().size() + some.size() + questions.size();
    Due.due(s.name() + ": " + calls + " calls are not too many", calls <= MOST_CALLS ? 1 : 0, 1);
    String after = some.isEmpty() ? "nothing" : "refused " + some.get(0).call().name() + " calls";
    List<Long> got = answers(x);
    for (int i = 0; i < questions.size(); i++) {
      Due.due(s.name() + ", after " + after + ": " + questions.get(i).told(), got.get(i), want.get(i));
    }
  }

  private static List<Long> answers(CounterHouse x) {
    List<Long> answers = new ArrayList<>();
    for (Call c : questions()) answers.add(c.of(x));
    return answers;
  }

  // ---- what is asked: all answers that there are, then how the run goes on, then the settings

  private static List<Call> questions() {
    List<Call> q = new ArrayList<>();
    for (int w = 0; w <= 12; w++) q.add(new Call("many", w));
    for (int k = 0; k < 6; k++) {
      for (int w = 0; w < 6; w++) q.add(new Call("ofPlane", k, w));
      q.add(new Call("live", k));
      q.add(new Call("rate", k, 0));
      q.add(new Call("rate", k, 1));
      q.add(new Call("through", k, 4 + k));
      q.add(new Call("folds", k + 1));
    }
    for (int g = 0; g < 2; g++) {
      for (int w = 0; w <= 4; w++) q.add(new Call("group", g, w));
      for (int k = 0; k < 4; k++) {
        q.add(new Call("member", g, k, 0));
        q.add(new Call("member", g, k, 1));
      }
      for (int w = 0; w <= 4; w++) q.add(new Call("track", g, w));
    }
    for (int h = 0; h <= 2; h++) q.add(new Call("having", 3, h));
    q.add(new Call("shifted", 5, 7));
    q.add(new Call("twos", 0, 1, 1));
    q.add(new Call("expected", 0, 1, 0));
    q.add(new Call("expected", 0, 1, 1));
    q.add(new Call("pulse", 1, 104, 3));
    q.add(new Call("pulse", 2, 260, 3));
    q.add(new Call("pulse", 2, 267, 5));
    q.add(new Call("end"));
    for (int w = 0; w <= 12; w++) q.add(new Call("many", w));
    for (int k = 0; k < 6; k++) q.add(new Call("ofPlane", k, 4));
    q.add(new Call("anew"));
    for (int which = 0; which < 4; which++) q.add(new Call("tune", which, LEAST_OF_SETTING[which]));
    q.add(new Call("plane", 0, 0, 0, 0));
    return q;
  }

  // ---- the states

  private static List<State> states() {
    List<Call> set = List.of(new Call("plane", 0, 4, 0, 0), new Call("plane", 1, 0, 6, 0), new Call("plane", 2, 2, 6, 1),
        new Call("tune", 0, 10), new Call("tune", 1, 6), new Call("tune", 2, 3), new Call("tune", 3, 2));
    List<Call> told = new ArrayList<>(set);
    int[][] pulses = {{0, 104, 5}, {1, 101, 6}, {2, 103, 7}, {1, 104, 9}, {2, 107, 7}, {2, 112, 3}, {0, 102, 4},
        {0, 101, 1}, {1, 107, 6}, {3, 130, 8}, {1, 131, 8}, {2, 133, 8}, {0, 160, 1}};
    for (int[] p : pulses) told.add(new Call("pulse", p));
    List<Call> full = new ArrayList<>(List.of(new Call("plane", 1, 5, 4, 1), new Call("tune", 3, 3)));
    for (int i = 0; i < 240; i++) full.add(new Call("pulse", i % 6, 30 + i, i % 16));
    return List.of(
        new State("a new house", List.of(), false, false, false),
        new State("planes and settings told", set, false, false, false),
        new State("one kept", List.of(new Call("pulse", 0, 0, 0)), true, false, false),
        new State("some kept", told, true, false, false),
        new State("ended", with(told, "end"), true, true, false),
        new State("ended with none", List.of(new Call("end")), true, true, false),
        new State("full", full, true, false, true),
        new State("full and ended", with(full, "end"), true, true, true),
        new State("a new run", with(with(told, "end"), "anew"), false, false, false));
  }

  private static List<Call> with(List<Call> calls, String last) {
    List<Call> more = new ArrayList<>(calls);
    more.add(new Call(last));
    return more;
  }

  // ---- the refused calls

  private static Place place(long due, int least, int most) {
    return new Place(due, new int[] {least, most}, new int[] {least - 1, most + 1, Integer.MIN_VALUE, Integer.MAX_VALUE});
  }

  private static List<List<Refused>> refusedIn(State s) {
    int groups = s.house().many(7);
    Place plane = place(UNKNOWN, 0, 5), set = place(OUTSIDE, 0, 63), which = place(OUTSIDE, 0, 1);
    Place group = groups > 0 ? place(UNKNOWN, 0, groups - 1) : new Place(UNKNOWN, new int[0], new int[] {-1, 0, 1, 240});
    List<List<Refused>> all = new ArrayList<>();
    all.add(List.of());
    all.add(refused(s, "plane", plane, place(OUTSIDE, 0, 30), place(OUTSIDE, 0, 50), place(OUTSIDE, 0, 1)));
    all.add(refused(s, "ofPlane", plane, place(OUTSIDE, 0, 5)));
    for (int i = 0; i < 4; i++) {
      Place one = new Place(OUTSIDE, new int[] {i}, new int[] {-1, 4, Integer.MIN_VALUE, Integer.MAX_VALUE});
      all.add(refused(s, "tune", one, place(OUTSIDE, LEAST_OF_SETTING[i], MOST_OF_SETTING[i])));
    }
    all.add(refused(s, "pulse", plane, place(OUTSIDE, 0, 9999), place(OUTSIDE, 0, 15)));
    all.add(refused(s, "end"));
    all.add(refused(s, "group", group, place(OUTSIDE, 0, 4)));
    all.add(refused(s, "member", group, plane, which));
    all.add(refused(s, "having", set, place(OUTSIDE, 0, 2)));
    all.add(refused(s, "folds", place(OUTSIDE, 1, 6)));
    all.add(refused(s, "shifted", set, place(OUTSIDE, 0, 500)));
    all.add(refused(s, "twos", plane, plane, place(OUTSIDE, -200, 200)));
    all.add(refused(s, "live", plane));
    all.add(refused(s, "rate", plane, which));
    all.add(refused(s, "expected", plane, plane, which));
    all.add(refused(s, "track", group, place(OUTSIDE, 0, 4)));
    all.add(refused(s, "through", plane, place(OUTSIDE, 0, 15)));
    all.add(refused(s, "many", place(OUTSIDE, 0, 12)));
    return all;
  }

  /** All calls with good numbers, and with one or two wrong ones, that are refused in a state. */
  private static List<Refused> refused(State s, String name, Place... places) {
    boolean isLong = name.equals("rate") || name.equals("expected");
    List<Refused> refused = new ArrayList<>();
    for (int[] args : argsOf(places)) {
      long first = firstRefusal(places, args);
      long due = first != 0 ? first : byState(s, name, args);
      if (due != 0) refused.add(new Refused(new Call(name, args), isLong ? LOST : due));
    }
    return refused;
  }

  /** Good numbers alone, all that there are; one wrong number, all that there are; two that are just outside. */
  private static List<int[]> argsOf(Place[] places) {
    List<int[]> all = List.of(new int[0]);
    for (Place p : places) {
      List<int[]> longer = new ArrayList<>();
      for (int[] some : all) {
        for (int g : p.good()) longer.add(with(some, g));
        for (int w : p.wrong()) longer.add(with(some, w));
      }
      all = longer;
    }
    return all.stream().filter(args -> isAsked(places, args)).toList();
  }

  private static boolean isAsked(Place[] places, int[] args) {
    int wrong = 0, far = 0, greatest = 0;
    for (int i = 0; i < args.length; i++) {
      int[] outside = places[i].wrong();
      if (isWrong(places[i], args[i])) {
        wrong++;
        if (args[i] != outside[0] && args[i] != outside[1]) far++;
      } else if (args[i] != places[i].good()[0]) {
        greatest++;
      }
    }
    return wrong == 0 || greatest == 0 && (wrong == 1 || wrong == 2 && far == 0);
  }

  private static int[] with(int[] some, int last) {
    int[] more = Arrays.copyOf(some, some.length + 1);
    more[some.length] = last;
    return more;
  }

  private static boolean isWrong(Place p, int arg) {
    return Arrays.stream(p.wrong()).anyMatch(w -> w == arg);
  }

  private static long firstRefusal(Place[] places, int[] args) {
    long first = 0;
    for (int i = 0; i < args.length; i++) {
      if (!isWrong(places[i], args[i])) continue;
      if (first == 0 || places[i].due() == UNKNOWN) first = places[i].due();
    }
    return first;
  }

  /** What a call with good numbers is due in a state; 0, if it is no refusal. */
  private static long byState(State s, String name, int[] args) {
    boolean none = !s.calls().stream().anyMatch(c -> c.name().equals("pulse"));
    switch (name) {
      case "plane":
      case "tune": return s.begun() ? STATE : 0;
      case "pulse": return s.ended() ? STATE : s.full() && args[1] == 9999 ? FULL : 0;
      case "end": return s.ended() ? STATE : 0;
      case "shifted":
      case "live": return s.ended() ? 0 : STATE;
      case "twos": return args[0] == args[1] ? STATE : 0;
      case "rate": return s.ended() && !none ? 0 : LOST;
      case "expected": return s.ended() && !none && args[0] != args[1] ? 0 : LOST;
      default: return 0;
    }
  }
}
