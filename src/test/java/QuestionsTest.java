/** Promises 9 to 11. */
public final class QuestionsTest {
  public static void main(String[] args) {
    questions();
    feints();
    years();
    yearsGoOn();
    wrongYears();
    refusalsOfYears();
    refusalsOfPairs();
    Check.end();
  }

  private static void questions() {
    LeastAsked x = Check.of(Check.FIVE);
    int[] who = {0, 2, 4, 0, 1, 2, 4, 0, 1, 2, 3};
    int[] brought = {8, 8 + 42, 104, 112, 114, 156, 210, 218, 220, 262, 271};
    int[] matters = {0, 2, 1, 0, 0, 2, 1, 0, 0, 2, 2};
    for (int q = 0; q < who.length; q++) {
      Check.due("9 question " + q, x.question(matters[q]), who[q]);
      Check.due("9 many", x.many(1), q + 1);
      Check.due("9 brought", x.many(2), brought[q]);
    }
    Check.due("9 asked", x.ofPerson(0, 1), 3);
    Check.due("9 no such", x.question(-1), LeastAsked.UNKNOWN);
    Check.due("9 no such", x.question(3), LeastAsked.UNKNOWN);
    Check.due("9 no more", x.many(1), who.length);
  }

  private static void feints() {
    LeastAsked x = Check.of(Check.FIVE);
    Check.due("10 not first", x.feint(2), LeastAsked.STATE);
    Check.due("10 first", x.feint(0), 1);
    Check.due("10 not again", x.feint(0), LeastAsked.STATE);
    Check.due("10 first", x.feint(2), 1);
    Check.due("10 first", x.feint(4), 1);
    Check.due("10 as often, the least", x.feint(1), LeastAsked.STATE);
    Check.due("10 as often, the least", x.feint(0), 2);
    Check.due("10 then", x.feint(1), 2);
    Check.due("10 no such", x.feint(5), LeastAsked.UNKNOWN);
    Check.due("10 no such", x.feint(-1), LeastAsked.UNKNOWN);
    Check.due("10 nothing brought", x.many(2), 0);
    Check.due("10 no questions", x.many(1), 0);
    Check.due("10 asked", x.ofPerson(1, 1), 2);
  }

  /** Answers for what 0, 1, 2, 3, 4, 10 .. 15. */
  private static void told(String name, LeastAsked x, int[] pairs, int... due) {
    for (int lane = 0; lane < 3; lane++) {
      Check.row(x, 1, lane, pairs);
      for (int w = 0; w < due.length; w++) {
        int what = w < 5 ? w : w + 5;
        Check.due("11 " + name + ", what " + what, x.year(1, lane, 0, pairs.length / 2, what), due[w]);
      }
    }
  }

  private static void years() {
    LeastAsked x = Check.of(Check.FIVE);
    told("nothing", x, new int[] {}, 0, -9, 0, 0, 0, 0, 1, 0, 2, 0, -9);
    told("one", x, new int[] {0, 0}, 8, -9, 1, 1, 2, 1, 1, 0, 2, 0, -9);
    told("three", x, new int[] {1, 0, 2, 0, 0, 0}, 52, -9, 21, 1, 0, 1, 1, 1, 2, 1, -9);
    told("feints", x, new int[] {0, 1, 2, 1, 1, 0}, 54, -9, 16, 1, 0, 1, 1, 1, 2, 1, -9);
    told("taught", x, new int[] {0, 10, 0, 0, 5, 12, 0, 0}, 4 + 28, -9, 5, 1, 4, 1, 1, 1, 2, 0, -9);
    told("not taught any more", x, new int[] {0, 0, 0, 10}, 8, -9, 1, 1, 2, 1, 1, 0, 2, 0, -9);
    for (int p = 0; p < 5; p++) Check.due("11 nothing is changed", x.ofPerson(p, 1), p == 1 ? 1 : p == 3 ? 2 : 0);
    Check.due("11 nothing is changed", x.ofPerson(2, 2), 4);
    Check.due("11 nothing is changed", x.many(1), 0);
    Check.due("11 nothing is changed", x.many(2), 0);
    x.question(0);
    told("from now on", x, new int[] {2, 0}, 42, -9, 4, 1, 4, 1, 1, 1, 2, 0, -9);
  }

  private static void yearsGoOn() {
    LeastAsked x = Check.of("p111;g000;g000");
    Check.row(x, 1, Check.SHORTS, new int[60]);
    Check.due("11 the longest", x.year(1, 1, 0, 20, 10), 10);
    Check.due("11 the longest", x.year(1, 1, 20, 20, 2), 3);
    Check.due("11 beyond", x.year(1, 1, 21, 20, 2), Check.INDEX);
    Check.row(x, 1, Check.INTS, 99, 1, 0, 2, 0, 99);
    Check.due("11 from i on", x.year(1, 2, 1, 2, 4), 0);
    Check.due("11 from i on", x.year(1, 2, 1, 1, 4), 1);
    LeastAsked y = Check.of("p111;g000;g000;g000;g000;g000;g000");
    Check.row(y, 1, Check.INTS, new int[12]);
    Check.due("11 six people", y.year(1, 2, 0, 6, 15), 1);
    Check.due("11 six people", y.year(1, 2, 0, 6, 2), 63);
  }

  private static void wrongYears() {
    LeastAsked x = Check.of(Check.FIVE);
    told("not first", x, new int[] {2, 1}, -100, 0, -100, -100, -100, -100, -100, -100, -100, -100, -100);
    told("not again", x, new int[] {0, 1, 0, 1}, -101, 1, -101, -101, -101, -101, -101, -101, -101, -101, -101);
    told("no such to know", x, new int[] {0, 0, 1, 1, 5, 15}, -101, 1, -101, -101, -101);
    told("no such to know", x, new int[] {0, 0, 5, 15, 1, 1}, -101, 1, -101, -101, -101);
    told("the last one", x, new int[] {0, 0, 0, 0, 0, 0, 1, 1}, -103, 3, -103, -103, -103);
    Check.due("11 no fault", x.fault(), 0);
  }

  private static void refusalsOfYears() {
    LeastAsked x = Check.of(Check.FIVE);
    Check.row(x, 1, Check.INTS, 0, 0);
    Check.due("11 no sheet", x.year(-1, 3, 0, 1, 0), LeastAsked.UNKNOWN);
    Check.due("11 no sheet", x.year(4, 2, 0, 1, 0), LeastAsked.UNKNOWN);
    Check.due("11 lane", x.year(2, -1, 0, 1, 0), LeastAsked.OUTSIDE);
    Check.due("11 lane", x.year(2, 3, 0, 1, 0), LeastAsked.OUTSIDE);
    Check.due("11 n", x.year(2, 0, 0, -1, 0), LeastAsked.OUTSIDE);
    Check.due("11 n", x.year(2, 0, 0, 21, 0), LeastAsked.OUTSIDE);
    Check.due("11 n", x.year(1, 2, 0, Integer.MIN_VALUE, 0), LeastAsked.OUTSIDE);
    for (int what : new int[] {-1, 5, 9, 16}) Check.due("11 what", x.year(2, 0, 0, 0, what), LeastAsked.OUTSIDE);
    Check.due("11 fault", x.fault(), 0);
    Check.due("11 nothing", x.year(2, 0, -1, 1, 0), Check.NULL);
    Check.due("11 fault", x.fault(), 1);
    Check.due("11 another lane", x.year(1, 0, -1, 1, 0), Check.CAST);
    Check.due("11 fault", x.fault(), 2);
    Check.due("11 i", x.year(1, 2, -1, 0, 0), Check.INDEX);
    Check.due("11 i", x.year(1, 2, 3, 0, 0), Check.INDEX);
    Check.due("11 fault", x.fault(), 3);
    Check.due("11 i", x.year(1, 2, 2, 0, 0), 0);
    Check.due("11 one cell is missing", x.year(1, 2, 1, 1, 0), Check.INDEX);
    Check.due("11 i", x.year(1, 2, Integer.MAX_VALUE, 1, 0), Check.INDEX);
    LeastAsked y = new LeastAsked();
    Check.row(y, 1, Check.INTS, 7, 7);
    Check.due("11 a fault goes ahead", y.year(1, 2, 1, 1, 0), Check.INDEX);
    Check.due("11 no province", y.year(1, 2, 0, 1, 0), LeastAsked.STATE);
    Check.due("11 no province", y.year(1, 2, 0, 0, 0), LeastAsked.STATE);
    Check.due("11 fault", y.fault(), 0);
  }

  private static void refusalsOfPairs() {
    int[][] pairs = {{0, -1}, {0, 2}, {0, 9}, {0, 16}, {8, 10}, {-1, 15}, {3, 0}, {-1, 0}, {5, 1}, {-1, 1}};
    for (int k = 0; k < pairs.length; k++) {
      LeastAsked x = Check.of(Check.FIVE);
      int due = k < 6 ? LeastAsked.OUTSIDE : LeastAsked.UNKNOWN;
      String name = "11 pair " + pairs[k][0] + ", " + pairs[k][1];
      for (int what : new int[] {0, 1, 15}) {
        Check.row(x, 1, Check.INTS, pairs[k]);
        Check.due(name, x.year(1, 2, 0, 1, what), due);
        Check.row(x, 1, Check.INTS, 0, 0, pairs[k][0], pairs[k][1], pairs[9 - k][0], pairs[9 - k][1]);
        Check.due(name + " ahead of another", x.year(1, 2, 0, 3, what), due);
        Check.row(x, 1, Check.INTS, 1, 1, pairs[k][0], pairs[k][1]);
        Check.due(name + " behind a first wrong", x.year(1, 2, 0, 2, what), due);
        Check.due(name + " that is not told", x.year(1, 2, 0, 1, 1), 0);
      }
    }
    LeastAsked x = Check.of(Check.FIVE);
    Check.row(x, 1, Check.INTS, 1, 1, -1, 1);
    x.year(1, 2, 0, 7, 0);
    Check.due("11 fault", x.fault(), 3);
    x.year(1, 2, 0, 2, 0);
    Check.due("11 refused", x.fault(), 0);
  }
}
