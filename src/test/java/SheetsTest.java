/** Promises 25 to 35. */
public final class SheetsTest {
  public static void main(String[] args) {
    sheets();
    loses();
    puts();
    cells();
    copies();
    copyFaults();
    tellings();
    greetings();
    kindsTaken();
    traceWraps();
    faults();
    many();
    Check.end();
  }

  private static void sheets() {
    LeastAsked x = new LeastAsked();
    for (int k = 0; k < 4; k++) {
      for (int lane = 0; lane < 3; lane++) {
        Check.due("25 new", x.sheet(k, lane, 60), 1);
        Check.due("25 0 at first", x.cell(k, 59, lane), 0);
        x.put(k, 0, 7);
        Check.due("25 none", x.sheet(k, lane, 0), 1);
        Check.due("25 no cell", x.put(k, 0, 0), Check.INDEX);
        Check.due("25 one", x.sheet(k, lane, 1), 1);
        Check.due("25 0 again", x.cell(k, 0, lane), 0);
        Check.due("25 too long", x.sheet(k, lane, 61), LeastAsked.OUTSIDE);
        Check.due("25 size", x.sheet(k, lane, -1), Check.SIZE);
        Check.due("25 fault", x.fault(), 4);
        Check.due("25 as it was", x.cell(k, 0, lane), 0);
        Check.due("25 size", x.sheet(k, lane, Integer.MIN_VALUE), Check.SIZE);
      }
      Check.due("25 lane", x.sheet(k, -1, -1), LeastAsked.OUTSIDE);
      Check.due("25 fault", x.fault(), 0);
      Check.due("25 lane", x.sheet(k, 3, 1), LeastAsked.OUTSIDE);
    }
    Check.due("25 no such", x.sheet(-1, 3, 61), LeastAsked.UNKNOWN);
    Check.due("25 no such", x.sheet(4, 0, -1), LeastAsked.UNKNOWN);
  }

  private static void loses() {
    LeastAsked x = new LeastAsked();
    Check.due("26 nothing", x.lose(3), 0);
    x.sheet(3, 0, 0);
    Check.due("26 something", x.lose(3), 1);
    Check.due("26 nothing", x.lose(3), 0);
    Check.due("26 nothing", x.put(3, 0, 0), Check.NULL);
    Check.due("26 no such", x.lose(4), LeastAsked.UNKNOWN);
    Check.due("26 no such", x.lose(-1), LeastAsked.UNKNOWN);
    Check.due("26 names no fault", x.fault(), 1);
  }

  private static void puts() {
    LeastAsked x = new LeastAsked();
    int[] values = {127, 128, 255, 256, -129, 32767, 32768, 65535, Integer.MAX_VALUE, Integer.MIN_VALUE};
    for (int lane = 0; lane < 3; lane++) {
      x.sheet(0, lane, 2);
      for (int v : values) {
        long cut = lane == 0 ? (byte) v : lane == 1 ? (short) v : v;
        Check.due("27 put", x.put(0, 1, v), 1);
        Check.due("27 cut to its lane", x.cell(0, 1, lane), cut);
        Check.due("27 not another", x.cell(0, 0, lane), 0);
      }
    }
    Check.due("27 index", x.put(0, -1, 0), Check.INDEX);
    Check.due("27 index", x.put(0, 2, 0), Check.INDEX);
    Check.due("27 fault", x.fault(), 3);
    Check.due("27 no such", x.put(-1, 9, 0), LeastAsked.UNKNOWN);
    Check.due("27 no such", x.put(4, 0, 0), LeastAsked.UNKNOWN);
    Check.due("27 fault", x.fault(), 0);
    Check.due("27 nothing", x.put(1, -1, 0), Check.NULL);
    Check.due("27 fault", x.fault(), 1);
    x.put(0, 0, 0);
    Check.due("27 fault", x.fault(), 0);
  }

  private static void cells() {
    LeastAsked x = new LeastAsked();
    Check.row(x, 1, Check.SHORTS, 5, -6);
    Check.due("28 cell", x.cell(1, 0, 1), 5);
    Check.due("28 cell", x.cell(1, 1, 1), -6);
    Check.due("28 fault", x.fault(), 0);
    lost(x, "cast", 1, 9, 0, 2);
    lost(x, "cast", 1, 0, 2, 2);
    lost(x, "null", 0, 9, 0, 1);
    lost(x, "index", 1, 2, 1, 3);
    lost(x, "index", 1, -1, 1, 3);
    lost(x, "no such", 4, 0, 1, 0);
    lost(x, "no such", -1, 0, 1, 0);
    lost(x, "index", 1, Integer.MAX_VALUE, 1, 3);
    lost(x, "lane", 1, 9, 3, 0);
    lost(x, "lane", 0, 0, -1, 0);
  }

  private static void lost(LeastAsked x, String name, int k, int i, int lane, int fault) {
    Check.due("28 " + name, x.cell(k, i, lane), LeastAsked.LOST);
    Check.due("28 fault of " + name, x.fault(), fault);
  }

  private static void rowIs(LeastAsked x, int k, int... due) {
    for (int i = 0; i < due.length; i++) Check.due("29 cell " + i, x.cell(k, i, 1), due[i]);
  }

  private static void copies() {
    LeastAsked x = new LeastAsked();
    Check.row(x, 0, Check.SHORTS, 1, 2, 3, 4, 5);
    Check.row(x, 1, Check.SHORTS, 9, 9, 9);
    Check.due("29 copy", x.copy(0, 3, 1, 1, 2), 2);
    rowIs(x, 1, 9, 4, 5);
    rowIs(x, 0, 1, 2, 3, 4, 5);
    Check.due("29 forth over itself", x.copy(0, 0, 0, 1, 4), 4);
    rowIs(x, 0, 1, 1, 2, 3, 4);
    Check.due("29 back over itself", x.copy(0, 1, 0, 0, 4), 4);
    rowIs(x, 0, 1, 2, 3, 4, 4);
    Check.due("29 none", x.copy(0, 5, 1, 3, 0), 0);
    Check.due("29 fault", x.fault(), 0);
    rowIs(x, 1, 9, 4, 5);
  }

  private static void copyFaults() {
    LeastAsked x = new LeastAsked();
    Check.row(x, 0, Check.SHORTS, 1, 2, 3, 4, 5);
    Check.row(x, 1, Check.SHORTS, 9, 9, 9);
    x.sheet(2, Check.INTS, 5);
    int[][] beyond = {{-1, 0, 0}, {6, 0, 0}, {0, -1, 0}, {0, 4, 0}, {0, 0, -1}, {0, 0, 4}, {4, 0, 2}, {0, 2, 2},
        {1, 0, Integer.MAX_VALUE}, {Integer.MAX_VALUE, 0, 1}, {0, Integer.MAX_VALUE, 1}, {0, 0, Integer.MIN_VALUE}};
    for (int[] b : beyond) {
      Check.due("29 index", x.copy(0, b[0], 1, b[1], b[2]), Check.INDEX);
      Check.due("29 fault", x.fault(), 3);
    }
    rowIs(x, 1, 9, 9, 9);
    Check.due("29 cast", x.copy(0, -1, 2, 0, 1), Check.CAST);
    Check.due("29 fault", x.fault(), 2);
    Check.due("29 the first is nothing", x.copy(3, -1, 0, 0, 1), Check.NULL);
    Check.due("29 the other is nothing", x.copy(0, -1, 3, 0, 1), Check.NULL);
    Check.due("29 fault", x.fault(), 1);
    for (int k : new int[] {-1, 4}) {
      Check.due("29 no such", x.copy(k, -1, 3, 0, 1), LeastAsked.UNKNOWN);
      Check.due("29 no such other", x.copy(3, -1, k, 0, 1), LeastAsked.UNKNOWN);
    }
    Check.due("29 fault", x.fault(), 0);
  }

  private static int traceOf(int from, int... numbers) {
    int trace = from;
    for (int number : numbers) trace = 31 * trace + number;
    return trace;
  }

  private static void tellings() {
    LeastAsked x = Check.of(Check.FIVE);
    Check.due("30 gooseherd", x.tell(0), 4);
    Check.due("33 gooseherd", x.trace(), 1);
    Check.due("30 twin", x.tell(1), 101);
    Check.due("33 twin", x.trace(), traceOf(1, 2, 1));
    Check.due("30 no such", x.tell(5), LeastAsked.UNKNOWN);
    Check.due("30 no such", x.tell(-1), LeastAsked.UNKNOWN);
    Check.due("33 no such", x.trace(), traceOf(1, 2, 1));
    Check.due("30 hermit", x.tell(2), 114);
    Check.due("33 hermit", x.trace(), traceOf(1, 2, 1, 3, 2, 1, 1));
    x.sharpen(2, 0);
    Check.due("30 hermit without wit", x.tell(2), 100);
  }

  private static void greetings() {
    LeastAsked x = Check.of(Check.FIVE);
    Check.due("31 gooseherd", x.greet(3), 2);
    Check.due("33 gooseherd", x.trace(), 4);
    Check.due("31 hermit", x.greet(2), 40);
    Check.due("33 hermit", x.trace(), traceOf(4, 5));
    Check.due("31 twin", x.greet(1), 1);
    Check.due("33 twin", x.trace(), traceOf(4, 5, 4));
    Check.due("31 no such", x.greet(5), LeastAsked.UNKNOWN);
    Check.due("31 no such", x.greet(-1), LeastAsked.UNKNOWN);
    Check.due("33 no such", x.trace(), traceOf(4, 5, 4));
    x.question(0);
    Check.due("31 asked once more", x.greet(0), 1);
  }

  private static void kindsTaken() {
    LeastAsked x = Check.of("p000;g000;t000;h000");
    for (int p = 0; p < 3; p++) {
      for (int kind = 0; kind < 3; kind++) {
        Check.due("32 " + p + " as " + kind, x.as(p, kind), kind <= p ? 1 : Check.CAST);
        Check.due("32 fault of " + p + " as " + kind, x.fault(), kind <= p ? 0 : 2);
      }
      Check.due("32 outside", x.as(p, 3), LeastAsked.OUTSIDE);
      Check.due("32 fault", x.fault(), 0);
      Check.due("32 outside", x.as(p, -1), LeastAsked.OUTSIDE);
    }
    Check.due("32 no such", x.as(3, 3), LeastAsked.UNKNOWN);
    Check.due("32 no such", x.as(-1, 0), LeastAsked.UNKNOWN);
    Check.due("32 leaves no trace", x.trace(), 0);
  }

  private static void traceWraps() {
    LeastAsked x = Check.of("p000;h000;g000");
    int trace = 0;
    for (int n = 0; n < 20; n++) {
      x.tell(0);
      trace = traceOf(trace, 3, 2, 1, 1);
      Check.due("33 wraps", x.trace(), trace);
    }
  }

  /** Calls that name no FAULTS leave fault() as it is; each that does sets it anew. */
  private static void faults() {
    LeastAsked x = Check.of(Check.FIVE);
    Check.due("34 taken", x.fault(), 0);
    x.put(0, 60, 0);
    x.ofPerson(9, 9); x.worth(9); x.weigh(0, 3); x.teach(0, 3); x.sharpen(0, 3); x.brings(0, 0);
    x.question(0); x.feint(9); x.register(0); x.turn(0); x.steer(0); x.even(); x.best(0);
    x.reading(0, 0, 0); x.back(0); x.knowings(0); x.wits(0); x.kinds(0); x.worths(0); x.odds(0, 0, 0);
    x.lose(3); x.tell(0); x.greet(0); x.trace(); x.many(0);
    Check.due("34 stays", x.fault(), 3);
    Check.due("34 stays", x.fault(), 3);
    for (int call = 0; call < 16; call++) {
      x.put(0, 60, 0);
      Check.due("34 index", x.fault(), 3);
      unfaulty(x, call);
      Check.due("34 none by " + call, x.fault(), 0);
    }
  }

  private static void unfaulty(LeastAsked x, int call) {
    switch (call) {
      case 0: x.province(0, 0, 0, 1); break;
      case 1: x.province(9, 0, 0, 1); break;
      case 2: x.year(0, 0, 0, 0, 0); break;
      case 3: x.year(0, 0, 0, 1, 0); break;
      case 4: x.year(0, 0, 0, 0, 9); break;
      case 5: x.plan(0, 0, 0, 0, 0); break;
      case 6: x.plan(0, 0, 0, 1, 0); break;
      case 7: x.plan(0, 0, 0, 0, 9); break;
      case 8: x.sheet(1, 0, 1); break;
      case 9: x.sheet(1, 0, 61); break;
      case 10: x.put(1, 0, 1); break;
      case 11: x.cell(1, 0, 0); break;
      case 12: x.cell(1, 0, 9); break;
      case 13: x.copy(0, 0, 1, 0, 1); break;
      case 14: x.as(0, 0); break;
      default: x.as(0, 9); break;
    }
  }

  private static void many() {
    LeastAsked x = Check.of(Check.FIVE);
    x.question(0);
    x.question(2);
    x.feint(4);
    x.reading(1, 1, 1);
    int[] due = {5, 2, 50, 1};
    for (int what = 0; what < 4; what++) Check.due("35 many " + what, x.many(what), due[what]);
    x.weigh(0, 0);
    Check.due("35 what they brought then", x.many(2), 50);
    Check.due("35 outside", x.many(-1), LeastAsked.OUTSIDE);
    Check.due("35 outside", x.many(4), LeastAsked.OUTSIDE);
  }
}
