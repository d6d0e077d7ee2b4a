/** Terms: UNKNOWN goes ahead of all else, a LANE that is none ahead of all FAULTS; in every province, and in none. */
public final class RefusalsTest {
  /** Calls with what their numbers are: p a PERSON, m a MATTER, k a SHEET, l a LANE, o another. */
  private static final String[][] CALLS = {
    {"2", "province", "kloo"}, {"3", "ofPerson", "po"}, {"4", "worth", "m"}, {"5", "weigh", "mo"}, {"6", "teach", "po"},
    {"7", "sharpen", "po"}, {"8", "brings", "pm"}, {"9", "question", "m"}, {"10", "feint", "p"}, {"11", "year", "klooo"},
    {"13", "turn", "p"}, {"14", "steer", "m"}, {"16", "plan", "klooo"}, {"18", "reading", "pmo"}, {"20", "knowings", "p"},
    {"21", "wits", "p"}, {"22", "kinds", "p"}, {"23", "worths", "m"}, {"24", "odds", "poo"}, {"25", "sheet", "klo"},
    {"26", "lose", "k"}, {"27", "put", "koo"}, {"28", "cell", "kol"}, {"29", "copy", "kokoo"}, {"30", "tell", "p"},
    {"31", "greet", "p"}, {"32", "as", "po"}};
  private static final int[] OTHERS = {0, -1, 999, Edge.LEAST, Edge.MOST};

  public static void main(String[] args) {
    for (String[] call : CALLS) {
      for (int s = 0; s < Edge.PROVINCES.length; s++) unknown(call, Edge.PROVINCES[s], Edge.PEOPLE[s], 3);
      unknown(call, Edge.FRESH, 0, 0);
      unknown(call, Edge.ROWS, 0, 0);
      lanes(call);
    }
    noProvince();
    Check.end();
  }

  private static void unknown(String[] call, Edge.Stage stage, int people, int matters) {
    for (int at = 0; at < call[2].length(); at++) {
      char of = call[2].charAt(at);
      int there = of == 'p' ? people : of == 'm' ? matters : 4;
      if (of != 'p' && of != 'm' && of != 'k') continue;
      for (int v : Edge.outside(0, there - 1)) {
        for (int others : OTHERS) Edge.refused(call[0], stage, Edge.UNKNOWN, call[1], with(call[2], at, v, others));
      }
    }
  }

  /** Every number is as told but the one at a place. */
  private static int[] with(String numbers, int at, int v, int others) {
    int[] a = new int[numbers.length()];
    java.util.Arrays.fill(a, others);
    a[at] = v;
    return a;
  }

  private static void lanes(String[] call) {
    int at = call[2].indexOf('l');
    if (at < 0) return;
    for (Edge.Stage stage : new Edge.Stage[] {Edge.FRESH, Edge.ROWS, Edge.FIVE}) {
      for (int k = 0; k < 4; k++) {
        for (int lane : Edge.outside(0, 2)) {
          for (int others : OTHERS) {
            int[] a = with(call[2], at, lane, others);
            a[0] = k;
            Edge.refused(call[0], stage, Edge.OUTSIDE, call[1], a);
          }
        }
      }
    }
  }

  /** STATE, and what goes ahead of it, where there are no PEOPLE. */
  private static void noProvince() {
    for (Edge.Stage stage : new Edge.Stage[] {Edge.FRESH, Edge.ROWS}) {
      Edge.refused("15", stage, Edge.STATE, "even");
      for (int k = 0; k < 6; k++) Edge.refused("12", stage, Edge.STATE, "register", k);
      for (int k : Edge.outside(0, 5)) Edge.refused("12", stage, Edge.OUTSIDE, "register", k);
      for (int k = -1; k < 3; k++) Edge.refused("17", stage, Edge.STATE, "best", k);
      for (int k : Edge.outside(-1, 2)) Edge.refused("17", stage, Edge.OUTSIDE, "best", k);
      for (int what = 0; what < 4; what++) Edge.looks("35", stage, 0, "many", what);
      for (int what : Edge.outside(0, 3)) Edge.refused("35", stage, Edge.OUTSIDE, "many", what);
      Edge.looks("19", stage, 0, "back", 0);
      for (int n : Edge.outside(0, 0)) Edge.refused("19", stage, Edge.OUTSIDE, "back", n);
      Edge.looks("33", stage, 0, "trace");
    }
  }
}
