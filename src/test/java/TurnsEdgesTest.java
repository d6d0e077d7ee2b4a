/** The boundary cases of promises 12 to 17. */
public final class TurnsEdgesTest {
  public static void main(String[] args) {
    register();
    turn();
    turnPlayedOut();
    steer();
    even();
    planArguments();
    planFaults();
    planCells();
    planPlaces();
    planTies();
    planAfterPlan();
    bestArguments();
    bestOfFew();
    bestTies();
    Check.end();
  }

  private static void register() {
    int[][] due = {{1, 0}, {4, 0, 1, 2, 3}, {3, 5, 1, 0, 2, 4}};
    for (int s = 0; s < 3; s++) {
      for (int k = 0; k < 6; k++) {
        Edge.looks("12", Edge.PROVINCES[s], k < Edge.PEOPLE[s] ? due[s][k] : Edge.NONE, "register", k);
      }
      for (int k : Edge.outside(0, 5)) Edge.refused("12", Edge.PROVINCES[s], Edge.OUTSIDE, "register", k);
    }
    String six = "p000;g000;g000;g000;g000;g000;g000";
    for (int people = 2; people <= 6; people++) {
      Edge.Stage fewer = Edge.text(six).then(Edge.text(six.substring(0, 4 + 5 * people)));
      for (int k = 0; k < 6; k++) Edge.looks("12 of " + people, fewer, k < people ? k : Edge.NONE, "register", k);
    }
  }

  private static void turn() {
    int[][] due = {{1, 0}, {1, 2, 3, 8, 0}, {26, 2, 28, 0, 30, 1}};
    for (int s = 0; s < 3; s++) {
      for (int p = 0; p < Edge.PEOPLE[s]; p++) Edge.looks("13", Edge.PROVINCES[s], due[s][p], "turn", p);
    }
    Edge.Stage alike = Edge.text("p000;g900;g900;g900;g900;g900;g900");
    for (int p = 0; p < 6; p++) Edge.looks("13 all alike", alike, p, "turn", p);
    Edge.Stage last = Edge.text("p000;g000;g000;g000;g000;g000;g900");
    Edge.looks("13 the lesser go ahead once more", last, 50, "turn", 5);
    Edge.Stage first = Edge.text("p000;g900;g000;g000;g000;g000;g000");
    Edge.looks("13 the greater do not", first, 45, "turn", 0);
    Edge.looks("13 of two", Edge.text("p000;g900;g000"), 9, "turn", 0);
    Edge.looks("13 of two", Edge.text("p000;g000;g900"), 10, "turn", 1);
  }

  private static void turnPlayedOut() {
    for (int s = 0; s < 3; s++) {
      for (int p = 0; p < Edge.PEOPLE[s]; p++) {
        Caller x = Edge.at(Edge.PROVINCES[s]);
        long ahead = x.call("turn", p);
        for (long q = ahead; q > 0; q--) Check.due("13 not yet", x.call("question", 0) == p ? 1 : 0, 0);
        Check.due("13 now it is", x.call("turn", p), 0);
        Check.due("13 his turn", x.call("question", 0), p);
        Check.due("13 all the others go ahead", x.call("turn", p) > 0 ? 1 : 0, 1);
      }
    }
  }

  private static void steer() {
    int[][] due = {{0, Edge.NONE, Edge.NONE}, {1, 0, 0}, {26, 26, 26}};
    for (int s = 0; s < 3; s++) for (int m = 0; m < 3; m++) Edge.looks("14", Edge.PROVINCES[s], due[s][m], "steer", m);
    Edge.Stage nobody = Edge.text("p999;g009;g009;g009;g009;g009;g009");
    Edge.Stage far = Edge.text("p999;g009;g009;g009;g009;g009;g979");
    Edge.Stage all = Edge.text("p999;g979;g979");
    for (int m = 0; m < 3; m++) {
      Edge.looks("14 nobody", nobody, Edge.NONE, "steer", m);
      Edge.looks("14 the farthest", far, 50, "steer", m);
      Edge.looks("14 FIRST", all, 0, "steer", m);
      int only = m;
      Edge.Stage one = nobody.then(x -> x.call("teach", 5, 1 << only));
      for (int other = 0; other < 3; other++) Edge.looks("14 one alone", one, other == m ? 5 : Edge.NONE, "steer", other);
    }
    Edge.looks("14 the nearest of two", Edge.text("p000;g500;g100;g270;g370"), 2, "steer", 2);
    Caller x = Edge.at(far);
    for (int n = 50; n > 0; n--) {
      Check.due("14 a FEINT less each time", x.call("steer", 0), n);
      x.call("feint", (int) x.call("register", 0));
    }
    Check.due("14 one who KNOWS is FIRST", x.call("register", 0), 5);
  }

  private static void even() {
    int[] due = {1, 5, 6 * 9 - 28};
    for (int s = 0; s < 3; s++) Edge.looks("15", Edge.PROVINCES[s], due[s], "even");
    Edge.looks("15 never ASKED", Edge.text("p000;g000;g000"), 0, "even");
    Edge.looks("15 as often", Edge.text("p000;g900;g900;g900;g900;g900;g900"), 0, "even");
    Edge.looks("15 the most of six", Edge.text("p000;g000;g000;g000;g000;g000;g900"), 45, "even");
    Edge.looks("15 one is behind", Edge.text("p000;g900;g900;g900;g900;g900;g800"), 1, "even");
    Edge.looks("15 one is ahead", Edge.text("p000;g100;g000;g000;g000;g000;g000"), 5, "even");
    Caller x = Edge.at(Edge.text("p000;g900;g900;g900"));
    for (int q = 0; q < 9; q++) {
      Check.due("15 round and round", x.call("even"), (3 - q % 3) % 3);
      x.call("question", 0);
    }
  }

  private static void planArguments() {
    for (Edge.Stage stage : new Edge.Stage[] {Edge.FRESH, Edge.ROWS, Edge.FIVE}) {
      for (int k = 0; k < 4; k++) {
        for (int i : new int[] {0, -1, 61}) {
          for (int n : Edge.outside(0, 7)) Edge.refused("16 n", stage, Edge.OUTSIDE, "plan", k, 1, i, n, 0);
          for (int place : Edge.outside(-1, 6)) Edge.refused("16 k", stage, Edge.OUTSIDE, "plan", k, 1, i, 0, place);
        }
        Edge.refused("16 both", stage, Edge.OUTSIDE, "plan", k, 1, -1, 8, 7);
      }
    }
  }

  private static void planFaults() {
    int[] lengths = {29, 41, 7};
    for (Edge.Stage stage : new Edge.Stage[] {Edge.ROWS, Edge.FIVE}) {
      for (int place = -1; place < 7; place++) {
        for (int lane = 0; lane < 3; lane++) {
          for (int i : new int[] {0, -1, 61}) {
            Edge.fails("16 nothing is no CAST", stage, Edge.NULL, "plan", 3, lane, i, 7, place);
            for (int k = 0; k < 3; k++) if (k != lane) Edge.fails("16", stage, Edge.CAST, "plan", k, lane, i, 0, place);
          }
          for (int i : Edge.outside(0, lengths[lane])) {
            Edge.fails("16 no cells, but i", stage, Edge.INDEX, "plan", lane, lane, i, 0, place);
            Edge.fails("16 i", stage, Edge.INDEX, "plan", lane, lane, i, 7, place);
          }
          for (int n = 1; n <= 7; n++) {
            Edge.fails("16 one cell is not there", stage, Edge.INDEX, "plan", lane, lane, lengths[lane] - n + 1, n, place);
          }
        }
      }
    }
    for (int place = -1; place < 7; place++) {
      Edge.refused("16 no PROVINCE", Edge.ROWS, Edge.STATE, "plan", 0, 0, 0, 7, place);
      Edge.refused("16 no PROVINCE", Edge.ROWS, Edge.STATE, "plan", 1, 1, 41, 0, place);
      Edge.fails("16 nothing at all", Edge.FRESH, Edge.NULL, "plan", 0, 0, 0, 0, place);
    }
  }

  private static Edge.Stage told(Edge.Stage stage, int... matters) {
    return stage.then(Edge.row(2, Edge.INTS, matters));
  }

  private static void planCells() {
    for (int cell : Edge.outside(0, 2)) {
      for (int at = 0; at < 7; at++) {
        int[] row = new int[7];
        row[at] = cell;
        for (int place : new int[] {-1, 0, 6}) {
          Edge.refused("16 no MATTER", told(Edge.FIVE, row), Edge.UNKNOWN, "plan", 2, 2, 0, 7, place);
        }
        Edge.looks("16 it is not told", told(Edge.FIVE, row), at == 0 ? 0 : 6, "plan", 2, 2, 0, at == 0 ? 0 : 1, -1);
        if (at < 6) Edge.looks("16 it is ahead", told(Edge.FIVE, row), 6, "plan", 2, 2, at + 1, 1, -1);
      }
    }
    Edge.Stage bytes = Edge.FIVE.then(Edge.row(2, Edge.BYTES, 257, 3));
    Edge.looks("16 a byte is cut", bytes, 54, "plan", 2, 0, 0, 1, -1);
    Edge.Stage shorts = Edge.FIVE.then(Edge.row(2, Edge.SHORTS, 65537, 256));
    Edge.looks("16 a short is cut", shorts, 54, "plan", 2, 1, 0, 1, -1);
    Edge.refused("16 a short is not 0", shorts, Edge.UNKNOWN, "plan", 2, 1, 0, 2, -1);
    Edge.refused("16 an int is not cut", told(Edge.FIVE, 65536), Edge.UNKNOWN, "plan", 2, 2, 0, 1, 0);
  }

  /** k of n, and beyond. */
  private static void planPlaces() {
    int[] together = {0, 6, 6 + 8, 6 + 8 + 2, 6 + 8 + 2 + 14, 6 + 8 + 2 + 14 + 6};
    for (int n = 0; n <= 7; n++) {
      for (int place = 0; place < 7; place++) {
        Edge.looks("16 of " + n, Edge.FIVE, place < n ? place : Edge.NONE, "plan", 2, 2, 0, n, place);
        Edge.looks("16 at the end", Edge.FIVE, place < n ? place : Edge.NONE, "plan", 2, 2, 7 - n, n, place);
        Edge.looks("16 at the end", Edge.FIVE, place < n ? place : Edge.NONE, "plan", 1, 1, 41 - n, n, place);
      }
      if (n < together.length) Edge.looks("16 of " + n, Edge.FIVE, together[n], "plan", 2, 2, 0, n, -1);
    }
    Edge.looks("16 none at the end", Edge.FIVE, 0, "plan", 1, 1, 41, 0, -1);
    Edge.Stage dear = Edge.text("p999;h979;h979").then(Edge.row(2, Edge.INTS, 2, 1, 0, 2, 1, 0, 2));
    Edge.looks("16 the most", dear, 7 * 162, "plan", 2, 2, 0, 7, -1);
  }

  private static void row(String name, Edge.Stage stage, int n, int... due) {
    for (int k = -1; k < n; k++) Edge.looks("16 " + name, stage, due[k + 1], "plan", 2, 2, 0, n, k);
  }

  private static void planTies() {
    Edge.Stage alike = Edge.text("p555;g001;g001;g001");
    row("any order is as good", told(alike, 2, 1, 0, 2, 1, 0, 2), 7, 7, 0, 1, 2, 3, 4, 5, 6);
    row("nothing is BROUGHT", told(Edge.text("p000;g070;g070"), 2, 1, 0), 3, 0, 0, 1, 2);
    Edge.Stage knows = Edge.text("p999;g001;g071;g001");
    row("one place is dear, all matters alike", told(knows, 0, 0, 0, 0), 4, 12, 0, 1, 2, 3);
    Edge.Stage only = Edge.text("p999;g001;g041;g001");
    row("the dear matter goes to the second", told(only, 2, 0, 0), 3, 11, 1, 0, 2);
    row("the first of the dear ones", told(only, 0, 2, 2), 3, 11, 0, 1, 2);
    row("the last is the dear one", told(only, 0, 0, 2), 3, 11, 0, 2, 1);
    Edge.Stage shun = Edge.text("p055;g011;g001");
    row("worth nothing is shunned", told(shun, 0, 1), 2, 2, 1, 0);
    row("seven backwards", told(Edge.text("p019;g049;g001"), 0, 0, 0, 2, 2, 2, 2), 7, 81 * 4 + 3, 3, 0, 4, 1, 5, 2, 6);
  }

  /** Nothing of a longer or dearer PLAN told ahead is left. */
  private static void planAfterPlan() {
    Caller x = Edge.at(told(Edge.FIVE, 1, 2, 0, 1, 2, 0, 1));
    for (int n = 0; n <= 7; n++) {
      Check.due("16 the longest ahead", x.call("plan", 2, 2, 0, 7, -1) > 54 ? 1 : 0, 1);
      Check.due("16 then " + n, x.call("plan", 1, 1, 0, n, n - 1), n - 1 < 0 ? 0 : n - 1);
      if (n < 7) Check.due("16 then not so many", x.call("plan", 1, 1, 0, n, n), Edge.NONE);
      if (n < 2) Check.due("16 then of " + n, x.call("plan", 1, 1, 0, n, -1), 6 * n);
    }
    Check.due("16 nobody was ASKED", x.call("register", 0), 4);
  }

  private static void bestArguments() {
    for (int s = 0; s < 3; s++) for (int k : Edge.outside(-1, 2)) Edge.refused("17", Edge.PROVINCES[s], Edge.OUTSIDE, "best", k);
  }

  private static void given(String name, Edge.Stage stage, int... due) {
    for (int k = -1; k < 3; k++) Edge.looks("17 " + name, stage, due[k + 1], "best", k);
  }

  private static void bestOfFew() {
    given("two: one MATTER is left over", Edge.TWO, 6 + 6, 0, 1, Edge.NONE);
    given("two: the first is left over", Edge.text("p099;g071;g071"), 18, Edge.NONE, 0, 1);
    given("two: the second is left over", Edge.text("p909;g071;g071"), 18, 0, Edge.NONE, 1);
    given("two: as many as can be, though it BRINGS nothing", Edge.text("p000;g079;g079"), 0, 0, 1, Edge.NONE);
    given("three: none is left over", Edge.text("p000;g079;g079;g079"), 0, 0, 1, 2);
    given("the first of all for the last MATTER", Edge.text("p999;g041;g021;g011"), 27, 2, 1, 0);
    given("two: the first of all for the last MATTER", Edge.text("p999;g041;g021"), 18, Edge.NONE, 1, 0);
    given("six: the last three", Edge.text("p999;g001;g001;g001;g043;g022;g011"), 27 + 18 + 9, 5, 4, 3);
    given("six", Edge.SIX, 162 + 90 + 81, 0, 2, 4);
    given("whoever was ASKED how often", Edge.text("p111;g900;g909;g909;g909"), 27, 1, 2, 3);
  }

  private static void bestTies() {
    given("all alike", Edge.text("p111;g001;g001;g001;g001;g001;g001"), 3, 0, 1, 2);
    given("the last is no better", Edge.text("p999;g011;g021;g041;g011;g021;g041"), 27, 0, 1, 2);
    given("a twin and his like", Edge.text("p555;g072;t071;h071"), 30, 0, 1, 2);
    given("of two rows the first", Edge.text("p155;g061;g061;g001"), 11, 2, 0, 1);
    given("none is after all others", Edge.text("p111;g073;g072"), 5, 0, 1, Edge.NONE);
  }
}
