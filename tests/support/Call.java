import java.util.Arrays;

/** A call by its name, so that a test can hold calls in lists and make them on more than one object. */
record Call(String name, int... args) {

  long of(CounterHouse x) {
    int[] a = Arrays.copyOf(args, 4);
    switch (name) {
      case "plane": return x.plane(a[0], a[1], a[2], a[3]);
      case "ofPlane": return x.ofPlane(a[0], a[1]);
      case "tune": return x.tune(a[0], a[1]);
      case "pulse": return x.pulse(a[0], a[1], a[2]);
      case "end": return x.end();
      case "anew": return x.anew();
      case "group": return x.group(a[0], a[1]);
      case "member": return x.member(a[0], a[1], a[2]);
      case "having": return x.having(a[0], a[1]);
      case "folds": return x.folds(a[0]);
      case "shifted": return x.shifted(a[0], a[1]);
      case "twos": return x.twos(a[0], a[1], a[2]);
      case "live": return x.live(a[0]);
      case "rate": return x.rate(a[0], a[1]);
      case "expected": return x.expected(a[0], a[1], a[2]);
      case "track": return x.track(a[0], a[1]);
      case "through": return x.through(a[0], a[1]);
      case "many": return x.many(a[0]);
      default: throw new IllegalArgumentException(name);
    }
  }

  String told() {
    String inside = Arrays.toString(args);
    return name + "(" + inside.substring(1, inside.length() - 1) + ")";
  }
}
