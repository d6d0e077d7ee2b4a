/** The boundary cases of promises 25 to 35. */
public final class SheetsEdgesTest {
  private static final int[] LENGTHS = {29, 41, 7};
  private static final Edge.Stage[] STAGES = {Edge.ROWS, Edge.FIVE};

  public static void main(String[] args) {
    sheetArguments();
    newRows();
    anotherRow();
    lose();
    putFaults();
    putCut();
    cellFaults();
    cells();
    copyFaults();
    copyOrder();
    copies();
    copyOverItself();
    tell();
    greet();
    as();
    traceWraps();
    faultOfEach();
    faultStays();
    many();
    Check.end();
  }

  private static void sheetArguments() {
    for (Edge.Stage stage : new Edge.Stage[] {Edge.FRESH, Edge.ROWS, Edge.FIVE}) {
      for (int k = 0; k < 4; k++) {
        for (int lane = 0; lane < 3; lane++) {
          for (int n : Edge.outside(0, 60)) {
            if (n > 60) Edge.refused("25", stage, Edge.OUTSIDE, "sheet", k, lane, n);
            if (n < 0) Edge.fails("25", stage, Edge.SIZE, "sheet", k, lane, n);
          }
        }
      }
    }
  }

  private static void newRows() {
    for (int k = 0; k < 4; k++) {
      for (int lane = 0; lane < 3; lane++) {
        for (int n : new int[] {0, 1, 2, 59, 60}) {
          Caller x = Edge.at(Edge.FRESH);
          Check.due("25 new", x.call("sheet", k, lane, n), 1);
          Check.due("34 none", x.call("fault"), 0);
          for (int i = 0; i < n; i++) Check.due("25 0 at first", x.call("cell", k, i, lane), 0);
          Check.due("25 no more cells", x.call("cell", k, n, lane), LeastAsked.LOST);
          Check.due("34 INDEX", x.call("fault"), Edge.INDEX);
          if (n > 0) Check.due("27 the last cell", x.call("put", k, n - 1, 1), 1);
          Check.due("27 one more", x.call("put", k, n, 1), -13);
          for (int other = 0; other < 4; other++) Check.due("25 it alone", x.call("lose", other), other == k ? 1 : 0);
        }
      }
    }
  }

  /** A new row has nothing of the row that was there. */
  private static void anotherRow() {
    for (int lane = 0; lane < 3; lane++) {
      Caller x = Edge.at(Edge.row(1, Edge.INTS, 7, 7, 7).then(Edge.row(2, Edge.INTS, 8)));
      Check.due("25 the same length", x.call("sheet", 1, lane, 3), 1);
      for (int i = 0; i < 3; i++) Check.due("25 0 again", x.call("cell", 1, i, lane), 0);
      x.call("put", 1, 0, 5);
      Check.due("25 shorter", x.call("sheet", 1, lane, 0), 1);
      Check.due("25 no cells", x.call("cell", 1, 0, lane), LeastAsked.LOST);
      Check.due("25 longer", x.call("sheet", 1, lane, 60), 1);
      for (int i = 0; i < 60; i++) Check.due("25 0 again", x.call("cell", 1, i, lane), 0);
      Check.due("25 the other stays", x.call("cell", 2, 0, Edge.INTS), 8);
      x.call("put", 1, 59, 5);
      Check.due("26", x.call("lose", 1), 1);
      x.call("sheet", 1, lane, 60);
      Check.due("25 0 again", x.call("cell", 1, 59, lane), 0);
    }
  }

  private static void lose() {
    for (int k = 0; k < 4; k++) {
      Edge.looks("26 nothing to lose", Edge.FRESH, 0, "lose", k);
      for (int lane = 0; lane < 3; lane++) {
        Caller x = Edge.at(Edge.row(0, 0, 1).then(Edge.row(1, 0, 1)).then(Edge.row(2, 0, 1)).then(Edge.row(3, 0, 1)));
        x.call("sheet", k, lane, 0);
        x.call("sheet", 0, 0, -1);
        Check.due("26 a row of none is a row", x.call("lose", k), 1);
        Check.due("34 names none", x.call("fault"), Edge.SIZE);
        Check.due("26 once", x.call("lose", k), 0);
        Check.due("26 nothing", x.call("cell", k, 0, lane), LeastAsked.LOST);
        Check.due("34 NULL", x.call("fault"), Edge.NULL);
        for (int other = 0; other < 4; other++) if (other != k) Check.due("26 it alone", x.call("cell", other, 0, 0), 1);
      }
    }
    Edge.looks("26 nothing to lose", Edge.FIVE, 0, "lose", 3);
    Caller x = Edge.at(Edge.FIVE);
    x.call("lose", 0);
    Check.due("26 the PROVINCE stays", x.call("many", 0), 5);
  }

  private static void putFaults() {
    for (Edge.Stage stage : STAGES) {
      for (int i : new int[] {0, -1, 59, 60, Edge.LEAST, Edge.MOST}) Edge.fails("27", stage, Edge.NULL, "put", 3, i, 1);
      for (int k = 0; k < 3; k++) for (int i : Edge.outside(0, LENGTHS[k] - 1)) Edge.fails("27", stage, Edge.INDEX, "put", k, i, 1);
    }
    Edge.Stage none = Edge.row(0, Edge.INTS).then(Edge.row(1, Edge.INTS, new int[60]));
    for (int i : Edge.outside(0, -1)) Edge.fails("27 a row of none", none, Edge.INDEX, "put", 0, i, 1);
    for (int i : Edge.outside(0, 59)) Edge.fails("27 the longest row", none, Edge.INDEX, "put", 1, i, 1);
  }

  private static void putCut() {
    int[] values = {0, 1, -1, 127, 128, 129, -128, -129, 255, 256, 257, -256, 32767, 32768, 32769, -32768, -32769, 65535,
        65536, 65537, -65536, 1 << 30, Edge.MOST, Edge.LEAST};
    int[] bytes = {0, 1, -1, 127, -128, -127, -128, 127, -1, 0, 1, 0, -1, 0, 1, 0, -1, -1, 0, 1, 0, 0, -1, 0};
    int[] shorts = {0, 1, -1, 127, 128, 129, -128, -129, 255, 256, 257, -256, 32767, -32768, -32767, -32768, 32767, -1, 0,
        1, 0, 0, -1, 0};
    for (int lane = 0; lane < 3; lane++) {
      int[] due = lane == 0 ? bytes : lane == 1 ? shorts : values;
      for (int c = 0; c < values.length; c++) {
        Caller x = Edge.at(Edge.row(2, lane, 9, 9, 9));
        Check.due("27", x.call("put", 2, 1, values[c]), 1);
        Check.due("34 none", x.call("fault"), 0);
        Check.due("27 " + values[c] + " in lane " + lane, x.call("cell", 2, 1, lane), due[c]);
        Check.due("27 it alone", x.call("cell", 2, 0, lane), 9);
        Check.due("27 it alone", x.call("cell", 2, 2, lane), 9);
      }
    }
  }

  private static void cellFaults() {
    for (Edge.Stage stage : STAGES) {
      for (int lane = 0; lane < 3; lane++) {
        for (int i : new int[] {0, -1, 60, Edge.LEAST, Edge.MOST}) {
          Edge.fails("28 nothing is no CAST", stage, Edge.NULL, "cell", 3, i, lane);
          for (int k = 0; k < 3; k++) if (k != lane) Edge.fails("28", stage, Edge.CAST, "cell", k, i, lane);
        }
        for (int i : Edge.outside(0, LENGTHS[lane] - 1)) Edge.fails("28", stage, Edge.INDEX, "cell", lane, i, lane);
      }
    }
    for (int lane = 0; lane < 3; lane++) {
      Edge.fails("28 a row of none", Edge.row(0, lane), Edge.INDEX, "cell", 0, 0, lane);
      Edge.fails("28 a row of none is of a LANE", Edge.row(0, lane), Edge.CAST, "cell", 0, 0, (lane + 1) % 3);
      Edge.fails("28 a row of none is of a LANE", Edge.row(0, lane), Edge.CAST, "cell", 0, 0, (lane + 2) % 3);
    }
  }

  private static void cells() {
    Edge.looks("28 the first", Edge.FIVE, 'p', "cell", 0, 0, 0);
    Edge.looks("28 the last", Edge.FIVE, '5', "cell", 0, 28, 0);
    Edge.looks("28 the last of 60", Edge.row(3, 1, new int[60]).then(x -> x.call("put", 3, 59, -7)), -7, "cell", 3, 59, 1);
    Edge.looks("28 the least int is not LOST", Edge.row(3, 2, Edge.LEAST), Edge.LEAST, "cell", 3, 0, 2);
    Edge.looks("28 the greatest int", Edge.row(3, 2, Edge.MOST), Edge.MOST, "cell", 3, 0, 2);
  }

  /** SHEETS 0 (5 shorts), 1 (3 shorts), 2 (5 ints), 3 (nothing). */
  private static final Edge.Stage COPIES =
      Edge.row(0, Edge.SHORTS, 1, 2, 3, 4, 5).then(Edge.row(1, Edge.SHORTS, 7, 8, 9)).then(Edge.row(2, Edge.INTS, 1, 2, 3, 4, 5));

  private static void copyFaults() {
    for (int n : new int[] {0, 1, 5, -1, Edge.LEAST, Edge.MOST}) {
      for (int i : Edge.outside(0, 5)) Edge.fails("29 i", COPIES, Edge.INDEX, "copy", 0, i, 1, 0, n);
      for (int j : Edge.outside(0, 3)) Edge.fails("29 j", COPIES, Edge.INDEX, "copy", 0, 0, 1, j, n);
    }
    for (int i = 0; i <= 5; i++) {
      for (int j = 0; j <= 3; j++) {
        int most = Math.min(5 - i, 3 - j);
        for (int n : Edge.outside(0, most)) Edge.fails("29 n", COPIES, Edge.INDEX, "copy", 0, i, 1, j, n);
      }
    }
    for (int n : Edge.outside(0, 3)) Edge.fails("29 over itself", COPIES, Edge.INDEX, "copy", 0, 1, 0, 2, n);
  }

  private static void copyOrder() {
    for (int n : new int[] {0, 1, -1, 61}) {
      for (int i : new int[] {0, -1, 61}) {
        for (int k = 0; k < 4; k++) {
          Edge.fails("29 the first is nothing", COPIES, Edge.NULL, "copy", 3, i, k, 0, n);
          Edge.fails("29 the other is nothing", COPIES, Edge.NULL, "copy", k, 0, 3, i, n);
        }
        for (int k = 0; k < 2; k++) {
          Edge.fails("29 unlike LANES", COPIES, Edge.CAST, "copy", k, i, 2, 0, n);
          Edge.fails("29 unlike LANES", COPIES, Edge.CAST, "copy", 2, 0, k, i, n);
        }
      }
    }
    Edge.Stage none = Edge.row(0, Edge.BYTES).then(Edge.row(1, Edge.SHORTS)).then(Edge.row(2, Edge.BYTES));
    Edge.fails("29 rows of none, of unlike LANES", none, Edge.CAST, "copy", 0, 0, 1, 0, 0);
    Edge.looks("29 rows of none", none, 0, "copy", 0, 0, 2, 0, 0);
    Edge.looks("29 a row of none, over itself", none, 0, "copy", 1, 0, 1, 0, 0);
    Edge.fails("29 rows of none", none, Edge.INDEX, "copy", 0, 0, 2, 0, 1);
  }

  private static void rowIs(String name, Caller x, int k, int... due) {
    for (int i = 0; i < due.length; i++) Check.due("29 " + name + ", cell " + i, x.call("cell", k, i, 1), due[i]);
  }

  private static void copies() {
    for (int i = 0; i <= 5; i++) for (int j = 0; j <= 3; j++) Edge.looks("29 none", COPIES, 0, "copy", 0, i, 1, j, 0);
    for (int i = 0; i <= 2; i++) {
      Caller x = Edge.at(COPIES);
      Check.due("29 the whole of the other", x.call("copy", 0, i, 1, 0, 3), 3);
      Check.due("34 none", x.call("fault"), 0);
      rowIs("all", x, 1, i + 1, i + 2, i + 3);
      rowIs("the first stays", x, 0, 1, 2, 3, 4, 5);
    }
    Caller last = Edge.at(COPIES);
    Check.due("29 the last cell", last.call("copy", 0, 4, 1, 2, 1), 1);
    rowIs("the last", last, 1, 7, 8, 5);
    for (int lane = 0; lane < 3; lane++) {
      Caller x = Edge.at(Edge.row(0, lane, -1, 127, -128).then(Edge.row(3, lane, new int[60])));
      Check.due("29 to the end of the longest", x.call("copy", 0, 0, 3, 57, 3), 3);
      int[] due = {0, -1, 127, -128};
      for (int i = 0; i < 4; i++) Check.due("29 as they were", x.call("cell", 3, 56 + i, lane), due[i]);
      Check.due("29 60 cells", x.call("copy", 3, 0, 3, 0, 60), 60);
      Check.due("29 as they were", x.call("cell", 3, 59, lane), -128);
    }
  }

  private static void copyOverItself() {
    int[][] due = {{1, 2, 3, 4, 5}, {1, 1, 2, 3, 4}, {1, 2, 1, 2, 3}, {1, 2, 3, 1, 2}, {1, 2, 3, 4, 1}};
    int[][] back = {{1, 2, 3, 4, 5}, {2, 3, 4, 5, 5}, {3, 4, 5, 4, 5}, {4, 5, 3, 4, 5}, {5, 2, 3, 4, 5}};
    for (int by = 0; by < 5; by++) {
      Caller x = Edge.at(COPIES);
      Check.due("29 forth", x.call("copy", 0, 0, 0, by, 5 - by), 5 - by);
      rowIs("forth by " + by, x, 0, due[by]);
      Caller y = Edge.at(COPIES);
      Check.due("29 back", y.call("copy", 0, by, 0, 0, 5 - by), 5 - by);
      rowIs("back by " + by, y, 0, back[by]);
    }
  }

  private static long traceOf(long from, int... numbers) {
    int trace = (int) from;
    for (int number : numbers) trace = 31 * trace + number;
    return trace;
  }

  private static final Edge.Stage ALL_KINDS = Edge.text("p000;g000;t900;h900;g909;t009;h009");

  private static void tell() {
    int[] due = {0, 100, 100, 9, 109, 118};
    int[][] left = {{1}, {2, 1}, {3, 2, 1, 1}};
    for (int p = 0; p < 6; p++) {
      Caller x = Edge.at(ALL_KINDS);
      Check.due("30 of " + p, x.call("tell", p), due[p]);
      Check.due("33 of " + p, x.call("trace"), traceOf(0, left[p % 3]));
      Check.due("30 again", x.call("tell", p), due[p]);
      Check.due("33 again", x.call("trace"), traceOf(traceOf(0, left[p % 3]), left[p % 3]));
      Check.due("34 names none", x.call("fault"), Edge.SIZE);
    }
  }

  private static void greet() {
    int[] due = {0, 9, 40, 9, 0, 40};
    for (int p = 0; p < 6; p++) {
      Caller x = Edge.at(ALL_KINDS);
      int body = p % 3 == 2 ? 5 : 4;
      Check.due("31 of " + p, x.call("greet", p), due[p]);
      Check.due("33 of " + p, x.call("trace"), body);
      Check.due("31 again", x.call("greet", p), due[p]);
      Check.due("33 again", x.call("trace"), 31 * body + body);
      Check.due("34 names none", x.call("fault"), Edge.SIZE);
    }
    Caller ten = Edge.at(Edge.text("p000;t900;h900").then(x -> { x.call("question", 0); x.call("question", 0); }));
    Check.due("31 beyond a digit", ten.call("greet", 0), 10);
    Check.due("31 a hermit, however often", ten.call("greet", 1), 40);
  }

  private static void as() {
    for (int p = 0; p < 6; p++) {
      for (int kind = 0; kind < 3; kind++) {
        if (kind <= p % 3) Edge.looks("32", ALL_KINDS, 1, "as", p, kind);
        else Edge.fails("32", ALL_KINDS, Edge.CAST, "as", p, kind);
      }
      for (int kind : Edge.outside(0, 2)) Edge.refused("32", ALL_KINDS, Edge.OUTSIDE, "as", p, kind);
    }
  }

  /** 31 to the 7th is beyond an int; the trace goes below 0, and on. */
  private static void traceWraps() {
    Caller x = Edge.at(ALL_KINDS);
    long trace = 0;
    boolean below = false;
    for (int n = 0; n < 60; n++) {
      x.call("greet", n % 6);
      trace = (31 * trace + (n % 3 == 2 ? 5 : 4)) % (1L << 32);
      long due = trace >= 1L << 31 ? trace - (1L << 32) : trace;
      below |= due < 0;
      Check.due("33 wraps, " + n, x.call("trace"), due);
    }
    Check.due("33 it was below 0", below ? 1 : 0, 1);
  }

  /** Each FAULT of each call is told, as a number and by fault(), and is over with the next call that names one. */
  private static void faultOfEach() {
    int[][] calls = {{3, 0, 0, 14, Edge.NULL}, {0, 1, 0, 14, Edge.CAST}, {0, 0, 0, 30, Edge.INDEX}, {0, 0, 0, -1, Edge.SIZE}};
    Caller x = Edge.at(Edge.FIVE);
    for (int[] c : calls) {
      Check.due("34 province", x.call("province", c[0], c[1], c[2], c[3]), -10 - c[4]);
      Check.due("34 province", x.call("fault"), c[4]);
      Check.due("34 it is still so", x.call("fault"), c[4]);
      Check.due("34 a call that names one", x.call("as", 0, 0), 1);
      Check.due("34 came to none", x.call("fault"), 0);
    }
    for (int[] c : calls) {
      x.call("province", c[0], c[1], c[2], c[3]);
      Check.due("34 refused", x.call("put", 4, 0, 0), Edge.UNKNOWN);
      Check.due("34 refused", x.call("fault"), 0);
      x.call("province", c[0], c[1], c[2], c[3]);
      Check.due("34 another", x.call("as", 0, 2), -12);
      Check.due("34 the latest", x.call("fault"), Edge.CAST);
    }
  }

  /** Calls that name no FAULTS, refused or not, leave it. */
  private static void faultStays() {
    Object[][] calls = {{"ofPerson", 0, 0}, {"worth", 0}, {"weigh", 0, 1}, {"teach", 0, 1}, {"sharpen", 0, 1}, {"brings", 0, 0},
        {"question", 0}, {"feint", 0}, {"register", 0}, {"turn", 0}, {"steer", 0}, {"even"}, {"best", 0}, {"reading", 0, 0, 0},
        {"back", 0}, {"knowings", 0}, {"wits", 0}, {"kinds", 0}, {"worths", 0}, {"odds", 0, 0, 0}, {"lose", 0}, {"tell", 0},
        {"greet", 0}, {"trace"}, {"many", 0}};
    for (Edge.Stage stage : new Edge.Stage[] {Edge.FRESH, Edge.ROWS, Edge.FIVE}) {
      for (Object[] c : calls) {
        for (int with : new int[] {0, -1, 999}) {
          int[] a = new int[c.length - 1];
          for (int k = 0; k < a.length; k++) a[k] = (Integer) c[k + 1] + with;
          Caller x = Edge.at(stage);
          x.call((String) c[0], a);
          Check.due("34 stays behind " + c[0], x.call("fault"), Edge.SIZE);
        }
      }
    }
  }

  private static void many() {
    int[][] due = {{2, 0, 0, 0}, {5, 1, 8, 2}, {6, 1, 1, 8}};
    for (int s = 0; s < 3; s++) {
      for (int what = 0; what < 4; what++) Edge.looks("35", Edge.PROVINCES[s], due[s][what], "many", what);
      for (int what : Edge.outside(0, 3)) Edge.refused("35", Edge.PROVINCES[s], Edge.OUTSIDE, "many", what);
    }
    Caller x = Edge.at(Edge.FIVE);
    x.call("feint", 4);
    x.call("question", 3);
    x.call("year", 1, 1, 0, 20, 0);
    x.call("plan", 2, 2, 0, 7, -1);
    for (int what = 0; what < 4; what++) Check.due("35 by question() alone", x.call("many", what), due[1][what]);
  }
}
