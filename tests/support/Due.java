/** Compares answers with those that are due, prints each that differs, and ends the test with exit code 1 if one did. */
final class Due {
  private static int calls = 0;
  private static int wrong = 0;

  private Due() {}

  static void due(String call, long got, long want) {
    calls++;
    if (got == want) return;
    wrong++;
    System.out.println(call + " answered " + got + ", due is " + want);
  }

  static void close() {
    System.out.println(wrong == 0 ? calls + " answers are as due" : wrong + " of " + calls + " answers are not as due");
    if (wrong != 0) System.exit(1);
  }
}
