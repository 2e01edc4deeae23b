/** Promises 1 to 7: a new object, plane, ofPlane, tune, pulse, end, anew. */
public final class PulsesTest {
  private static void due(String call, long got, long want) { Due.due(call, got, want); }

  public static void main(String[] args) {
    aNewObject();
    planes();
    settings();
    pulsesWithinTheBound();
    lateOnesAtFull();
    deadTimes();
    ofPlaneCounts();
    end();
    anew();
    Due.close();
  }

  // promise 1
  private static void aNewObject() {
    CounterHouse x = new CounterHouse();
    for (int k = 0; k < 6; k++) for (int w = 0; w < 6; w++) due("new: ofPlane(" + k + ", " + w + ")", x.ofPlane(k, w), 0);
    for (int w = 0; w <= 10; w++) due("new: many(" + w + ")", x.many(w), 0);
    due("new: many(11)", x.many(11), 1000);
    due("new: many(12)", x.many(12), 1000);
    due("new: group(0, 0)", x.group(0, 0), -1);
    due("new: tune(0, 20)", x.tune(0, 20), 20);
    due("new: tune(1, 5)", x.tune(1, 5), 5);
    due("new: tune(2, 2)", x.tune(2, 2), 2);
    due("new: tune(3, 1)", x.tune(3, 1), 1);
  }

  // promise 2
  private static void planes() {
    CounterHouse x = new CounterHouse();
    due("plane at the most", x.plane(5, 30, 50, 1), 1);
    due("its LAG", x.ofPlane(5, 0), 30);
    due("its DEAD", x.ofPlane(5, 1), 50);
    due("its MANNER", x.ofPlane(5, 2), 1);
    due("EDGE less the greatest LAG", x.many(12), 970);
    int[][] wrong = {
      {-1, 0, 0, 0, -1}, {6, 31, 0, 0, -1}, {0, -1, 0, 0, -2}, {0, 31, 0, 0, -2}, {0, 0, -1, 0, -2}, {0, 0, 51, 0, -2},
      {0, 0, 0, -1, -2}, {0, 0, 0, 2, -2}, {Integer.MIN_VALUE, 0, 0, 0, -1}, {Integer.MAX_VALUE, 0, 0, 0, -1}};
    for (int[] w : wrong) due("plane " + w[0] + " " + w[1] + " " + w[2] + " " + w[3], x.plane(w[0], w[1], w[2], w[3]), w[4]);
    due("a refused plane changes nothing", x.ofPlane(0, 0) + x.ofPlane(0, 1) + x.ofPlane(0, 2), 0);
    due("plane back to the least", x.plane(5, 0, 0, 0), 1);
    due("its LAG again", x.ofPlane(5, 0), 0);
    due("EDGE follows", x.many(12), 1000);
    x.pulse(0, 0, 0);
    due("plane after a KEPT one", x.plane(1, 1, 1, 1), -3);
    due("OUTSIDE ahead of STATE", x.plane(1, 31, 1, 1), -2);
    due("UNKNOWN ahead of STATE", x.plane(6, 1, 1, 1), -1);
    x.anew();
    due("plane in a new RUN", x.plane(1, 7, 8, 1), 1);
    x.end();
    due("plane after the end", x.plane(1, 1, 1, 1), -3);
    due("and it stays", x.ofPlane(1, 0) * 100 + x.ofPlane(1, 1) * 10 + x.ofPlane(1, 2), 781);
  }

  // promise 4
  private static void settings() {
    CounterHouse x = new CounterHouse();
    int[][] ranges = {{0, 100, 20}, {0, 40, 5}, {2, 6, 2}, {0, 3, 1}};
    for (int s = 0; s < 4; s++) {
      int least = ranges[s][0], most = ranges[s][1];
      due("tune " + s + " below", x.tune(s, least - 1), -2);
      due("tune " + s + " above", x.tune(s, most + 1), -2);
      due("tune " + s + " to the most", x.tune(s, most), ranges[s][2]);
      due("tune " + s + " to the least", x.tune(s, least), most);
      due("tune " + s + " tells what it was", x.tune(s, least), least);
    }
    due("tune(-1, 0)", x.tune(-1, 0), -2);
    due("tune(4, 0)", x.tune(4, 0), -2);
    due("tune(MAX, 0)", x.tune(Integer.MAX_VALUE, 0), -2);
    due("tune(1, MIN)", x.tune(1, Integer.MIN_VALUE), -2);
    x.pulse(0, 9, 0);
    due("tune after a KEPT one", x.tune(0, 1), -3);
    due("OUTSIDE ahead of STATE", x.tune(0, 101), -2);
    x.anew();
    due("a SETTING stays in a new RUN", x.tune(0, 1), 0);
    x.end();
    due("tune after the end", x.tune(0, 2), -3);
    x.anew();
    due("it stayed", x.tune(0, 2), 1);
  }

  // promise 5
  private static void pulsesWithinTheBound() {
    CounterHouse x = new CounterHouse();
    due("pulse of no PLANE", x.pulse(6, -1, -1), -1);
    due("pulse of PLANE -1", x.pulse(-1, 0, 0), -1);
    due("MOMENT -1", x.pulse(0, -1, 0), -2);
    due("MOMENT 10000", x.pulse(0, 10000, 0), -2);
    due("strip -1", x.pulse(0, 0, -1), -2);
    due("strip 16", x.pulse(0, 0, 16), -2);
    due("nothing was told by that", x.many(0), 0);
    due("the first one", x.pulse(0, 100, 0), 1);
    due("HORIZON", x.many(11), 2080);
    due("at the HORIZON", x.pulse(1, 80, 15), 1);
    due("below the HORIZON", x.pulse(1, 79, 15), 0);
    due("the HORIZON ahead of it counts", x.pulse(5, 300, 3), 1);
    due("HORIZON now", x.many(11), 2280);
    due("a TOO LATE one leaves it", x.pulse(5, 279, 3) + x.many(11), 2280);
    due("an older KEPT one leaves it", x.pulse(5, 290, 3) + x.many(11), 2281);
    due("told", x.many(0), 6);
    due("TOO LATE", x.many(1), 2);
    due("KEPT", x.many(2), 4);
    due("SETTLED: less than the HORIZON", x.many(3), 2);
    due("many(13)", x.many(13), -2);
    due("many(-1)", x.many(-1), -2);
    due("LATEST at the most", x.pulse(0, 9999, 0), 1);
    due("the same PULSE again", x.pulse(0, 9999, 0), 1);
    x.end();
    due("pulse after the end", x.pulse(0, 9999, 0), -3);
    due("TOO LATE is no answer after the end", x.pulse(0, 0, 0), -3);
    due("OUTSIDE ahead of STATE", x.pulse(0, 10000, 0), -2);
    due("told after that", x.many(0), 8);

    CounterHouse y = new CounterHouse();
    y.tune(0, 0);
    due("BOUND 0: first", y.pulse(0, 50, 0), 1);
    due("BOUND 0: the same MOMENT", y.pulse(1, 50, 0), 1);
    due("BOUND 0: one less", y.pulse(1, 49, 0), 0);
    due("BOUND 0: none SETTLED", y.many(3), 0);
    CounterHouse z = new CounterHouse();
    z.pulse(0, 5, 0);
    due("HORIZON below 0", z.many(11), 1985);
    due("MOMENT 0 is KEPT then", z.pulse(0, 0, 0), 1);
  }

  private static void lateOnesAtFull() {
    CounterHouse x = new CounterHouse();
    for (int i = 0; i < 240; i++) due("pulse " + i, x.pulse(i % 6, 30 + i, i % 16), 1);
    due("FULL", x.pulse(0, 500, 0), -4);
    due("FULL at the HORIZON", x.pulse(0, 249, 0), -4);
    due("TOO LATE ahead of FULL", x.pulse(0, 248, 0), 0);
    due("OUTSIDE ahead of FULL", x.pulse(0, 500, 16), -2);
    due("UNKNOWN ahead of FULL", x.pulse(6, 500, 0), -1);
    due("HORIZON unchanged", x.many(11), 2249);
    due("told", x.many(0), 241);
    due("end()", x.end(), 21);
    due("STATE ahead of FULL", x.pulse(0, 500, 0), -3);
    due("anew()", x.anew(), 240);
    for (int i = 0; i < 240; i++) x.pulse(0, i, 0);
    due("again 240", x.many(2), 240);
    due("and FULL", x.pulse(0, 240, 0), -4);
  }

  private static void deadTimes() {
    CounterHouse x = new CounterHouse();
    x.plane(0, 0, 10, 0);
    x.plane(1, 30, 10, 1);
    x.tune(0, 100);
    // out of order, so that only the order by MOMENT can tell which are LIVE
    int[] moments = {30, 9, 19, 10, 20, 0};
    for (int k = 0; k < 3; k++) for (int m : moments) x.pulse(k, m, 0);
    due("none LIVE as long as none is SETTLED", x.many(4) + x.many(5), 0);
    due("end()", x.end(), 18);
    due("STIFF: 0, 10, 20, 30 LIVE", x.ofPlane(0, 4), 4);
    due("STIFF: 9, 19 DEADENED", x.ofPlane(0, 5), 2);
    due("STRETCHED: 0, 30 LIVE", x.ofPlane(1, 4), 2);
    due("STRETCHED: 9, 10, 19, 20 DEADENED", x.ofPlane(1, 5), 4);
    due("DEAD 0: all LIVE", x.ofPlane(2, 4), 6);
    due("many(4)", x.many(4), 12);
    due("many(5)", x.many(5), 6);

    CounterHouse y = new CounterHouse();
    y.plane(3, 0, 1, 0);
    y.pulse(3, 4, 9);
    y.pulse(3, 4, 2);
    y.pulse(3, 5, 7);
    y.end();
    due("of two at one MOMENT the lesser strip is LIVE", y.member(0, 3, 1), 2);
    due("MOMENT END itself is LIVE", y.ofPlane(3, 4), 2);
    y.anew();
    y.pulse(3, 0, 0);
    y.end();
    due("END is 0 again in a new RUN", y.ofPlane(3, 4), 1);
  }

  // promise 3
  private static void ofPlaneCounts() {
    CounterHouse x = new CounterHouse();
    x.plane(4, 3, 5, 1);
    x.pulse(4, 10, 0);
    x.pulse(4, 12, 0);
    x.pulse(4, 40, 0);
    x.pulse(2, 40, 0);
    due("LAG", x.ofPlane(4, 0), 3);
    due("DEAD", x.ofPlane(4, 1), 5);
    due("MANNER", x.ofPlane(4, 2), 1);
    due("KEPT", x.ofPlane(4, 3), 3);
    due("LIVE", x.ofPlane(4, 4), 1);
    due("DEADENED", x.ofPlane(4, 5), 1);
    due("KEPT of another", x.ofPlane(2, 3), 1);
    due("what 6", x.ofPlane(4, 6), -2);
    due("what -1", x.ofPlane(4, -1), -2);
    due("PLANE 6", x.ofPlane(6, 6), -1);
    due("PLANE -1", x.ofPlane(-1, 0), -1);
  }

  // promise 6
  private static void end() {
    CounterHouse x = new CounterHouse();
    due("end of an empty RUN", x.end(), 0);
    due("HORIZON 20000 then", x.many(11), 22000);
    due("end once more", x.end(), -3);
    x.anew();
    x.plane(1, 12, 0, 0);
    x.pulse(0, 10, 0);
    x.pulse(0, 30, 0);
    x.pulse(0, 31, 0);
    due("10 is SETTLED", x.many(3), 1);
    due("end: two more", x.end(), 2);
    due("all SETTLED", x.many(3), 3);
    due("HORIZON", x.many(11), 22000);
    due("EDGE", x.many(12), 21988);
    due("end again", x.end(), -3);
  }

  // promise 7
  private static void anew() {
    CounterHouse x = new CounterHouse();
    due("anew of an empty RUN", x.anew(), 0);
    x.plane(2, 4, 5, 1);
    x.tune(2, 3);
    x.pulse(2, 100, 0);
    x.pulse(2, 10, 0);
    x.pulse(1, 130, 0);
    x.pulse(0, 200, 0);
    due("a GROUP there", x.many(7) > 0 ? 1 : 0, 1);
    due("anew tells the KEPT ones", x.anew(), 3);
    for (int w = 0; w <= 10; w++) due("many(" + w + ") in the new RUN", x.many(w), 0);
    due("HORIZON", x.many(11), 1000);
    due("EDGE, as the LAG stays", x.many(12), 996);
    due("LAG, DEAD, MANNER stay", x.ofPlane(2, 0) * 100 + x.ofPlane(2, 1) * 10 + x.ofPlane(2, 2), 451);
    due("no KEPT of it", x.ofPlane(2, 3), 0);
    due("FOLD stays", x.tune(2, 2), 3);
    due("no GROUP", x.group(0, 0), -1);
    x.end();
    due("anew after the end", x.anew(), 0);
    due("not ENDED", x.pulse(0, 3, 0), 1);
    due("end()", x.end(), 1);
  }
}
