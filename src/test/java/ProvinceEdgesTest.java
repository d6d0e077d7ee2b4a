/** The boundary cases of promises 1 to 8, one after another as the document tells them. */
public final class ProvinceEdgesTest {
  private static final String LONGEST = "p000;g000;t000;h000;g000;t000;h000";
  /** What may stand in each place of the longest TEXT: p, a digit, ;, a letter, what one KNOWS. */
  private static final String PLACES = "pddd;ldkd;ldkd;ldkd;ldkd;ldkd;ldkd";

  public static void main(String[] args) {
    newObject();
    codeByCode();
    codesThatAreCut();
    tooSoon();
    theSeventh();
    firstOfTwo();
    onlyCellsThatAreTaken();
    notTaken();
    allAnew();
    faultsOfProvince();
    ofPerson();
    says();
    register();
    weigh();
    teach();
    sharpen();
    brings();
    Check.end();
  }

  private static void newObject() {
    Caller x = new Caller();
    Check.due("34 ahead of any", x.call("fault"), 0);
    Check.due("33 at first", x.call("trace"), 0);
    for (int k = 0; k < 4; k++) Edge.looks("1 nothing", Edge.FRESH, 0, "lose", k);
    for (int k = 0; k < 4; k++) for (int lane = 0; lane < 3; lane++) Edge.fails("1", Edge.FRESH, Edge.NULL, "cell", k, 0, lane);
  }

  private static boolean mayStand(char place, int code) {
    switch (place) {
      case 'p': return code == 112;
      case ';': return code == 59;
      case 'l': return code == 103 || code == 116 || code == 104;
      case 'k': return code >= 48 && code <= 55;
      default: return code >= 48 && code <= 57;
    }
  }

  private static long answer(int lane, int... codes) {
    Caller x = new Caller();
    Edge.row(0, lane, codes).ready(x);
    return x.call("province", 0, lane, 0, codes.length);
  }

  private static long answer(String text) {
    return answer(Edge.BYTES, Check.codes(text));
  }

  private static int[] changed(int at, int code) {
    int[] codes = Check.codes(LONGEST);
    codes[at] = code;
    return codes;
  }

  private static void codeByCode() {
    for (int at = 0; at < LONGEST.length(); at++) {
      for (int code = -129; code <= 257; code++) {
        long due = mayStand(PLACES.charAt(at), code) ? 6 : -100 - at;
        Check.due("2 code " + code + " in place " + at, answer(Edge.INTS, changed(at, code)), due);
        if (code >= -128 && code < 128) Check.due("2 byte " + code + " in place " + at, answer(Edge.BYTES, changed(at, code)), due);
      }
    }
  }

  private static void codesThatAreCut() {
    for (int at = 0; at < LONGEST.length(); at++) {
      int code = LONGEST.charAt(at);
      Check.due("2 a byte is cut", answer(Edge.BYTES, changed(at, code + 256)), 6);
      Check.due("2 a byte is cut", answer(Edge.BYTES, changed(at, code - 65536)), 6);
      Check.due("2 a short is not", answer(Edge.SHORTS, changed(at, code + 256)), -100 - at);
      Check.due("2 a short is cut", answer(Edge.SHORTS, changed(at, code + 65536)), 6);
      Check.due("2 an int is not", answer(Edge.INTS, changed(at, code + 65536)), -100 - at);
      Check.due("2 an int is not", answer(Edge.INTS, changed(at, code + Edge.LEAST)), -100 - at);
      Check.due("2 0 is no code", answer(Edge.INTS, changed(at, 0)), -100 - at);
    }
  }

  private static void tooSoon() {
    for (int n = 0; n <= LONGEST.length(); n++) {
      boolean whole = n == 14 || n == 19 || n == 24 || n == 29 || n == 34;
      for (int lane = 0; lane < 3; lane++) {
        long due = whole ? (n - 4) / 5 : -100 - n;
        Check.due("2 ends behind " + n, answer(lane, Check.codes(LONGEST.substring(0, n))), due);
      }
    }
    Check.due("2 nobody", answer("p999"), -104);
    Check.due("2 one PERSON", answer("p999;g999"), -107);
    Check.due("2 one PERSON", answer("p999;g979"), -109);
    Check.due("2 two PEOPLE", answer("p999;g979;h979"), 2);
    Check.due("2 a third begins", answer("p999;g979;h979;"), -115);
  }

  private static void theSeventh() {
    Check.due("2 the ; of a seventh", answer(LONGEST + ";"), -134);
    Check.due("2 a whole seventh", answer(LONGEST + ";g000"), -134);
    for (int code : new int[] {0, 48, 58, 60, 103, 112, 127}) Check.due("2 behind six", answer(LONGEST + (char) code), -134);
    int[] full = java.util.Arrays.copyOf(Check.codes(LONGEST), 60);
    Check.due("2 the longest row", answer(Edge.INTS, full), -134);
  }

  private static void firstOfTwo() {
    Check.due("2 the first of two", answer("p00x;x000;g000"), -103);
    Check.due("2 a fault, and too soon", answer("p000;g08"), -107);
    Check.due("2 a fault, and a seventh", answer("p000;g000;t000;h000;g000;t000;h00x;g000"), -133);
    Check.due("2 too soon has no fault ahead", answer("p000;g07"), -108);
    Check.due("2 a fault as the last code", answer("p000;g000;g00x"), -113);
    Check.due("2 each is wrong", answer("xxxxxxxxxxxxxx"), -100);
  }

  private static void onlyCellsThatAreTaken() {
    int[] row = new int[60];
    System.arraycopy(Check.codes(LONGEST), 0, row, 26, 34);
    for (int lane = 0; lane < 3; lane++) {
      Caller x = new Caller();
      Edge.row(3, lane, row).ready(x);
      Check.due("2 up to the last cell", x.call("province", 3, lane, 26, 34), 6);
      Check.due("2 two of them", x.call("province", 3, lane, 26, 14), 2);
      Check.due("2 one cell behind", x.call("province", 3, lane, 27, 33), -100);
      Check.due("2 one cell ahead", x.call("province", 3, lane, 25, 35), -100);
      Check.due("2 no cells", x.call("province", 3, lane, 60, 0), -100);
      Check.due("2 no cells", x.call("province", 3, lane, 0, 0), -100);
      Check.due("2 two are still there", x.call("many", 0), 2);
    }
  }

  /** A TEXT with a FIRST FAULT changes nothing, and is no FAULT. */
  private static void notTaken() {
    for (Edge.Stage stage : new Edge.Stage[] {Edge.ROWS, Edge.FIVE}) {
      Edge.looks("2", stage, -128, "province", 0, 0, 0, 28);
      Edge.looks("2", stage, -109, "province", 0, 0, 0, 9);
      Edge.looks("2", stage, -100, "province", 0, 0, 0, 0);
      Edge.looks("2", stage, -100, "province", 0, 0, 29, 0);
      Edge.looks("2", stage, -100, "province", 0, 0, 28, 1);
      Edge.looks("2", stage, -100, "province", 1, 1, 41, 0);
      Edge.looks("2", stage, -100, "province", 2, 2, 0, 7);
    }
  }

  private static void allAnew() {
    Edge.Stage again = x -> x.call("province", 0, 0, 0, 34);
    Caller x = Edge.at(Edge.SIX.then(again));
    int[] due = {6, 0, 0, 0};
    for (int what = 0; what < 4; what++) Check.due("2 anew, many " + what, x.call("many", what), due[what]);
    Check.due("2 ASKED anew", x.call("ofPerson", 1, 1), 0);
    Check.due("2 no READINGS", x.call("back", 1), Edge.OUTSIDE);
    Check.due("2 all WITS", x.call("wits", 2), 1023);
    Check.due("2 numbered anew", x.call("reading", 0, 0, 0), 0);
    Caller y = Edge.at(Edge.SIX.then(z -> { z.call("teach", 0, 0); z.call("weigh", 0, 0); z.call("sharpen", 0, 0); }).then(again));
    Check.due("2 KNOWS anew", y.call("ofPerson", 0, 2), 7);
    Check.due("2 WIT anew", y.call("ofPerson", 0, 3), 9);
    Check.due("2 WORTH anew", y.call("worth", 0), 9);
    Caller fewer = Edge.at(Edge.SIX.then(z -> z.call("province", 0, 0, 0, 14)));
    Check.due("2 two are left", fewer.call("many", 0), 2);
    Check.due("2 the third is gone", fewer.call("ofPerson", 2, 0), Edge.UNKNOWN);
    Caller traced = Edge.at(Edge.FIVE);
    long trace = traced.call("trace");
    Check.due("2 taken", traced.call("province", 0, 0, 0, 29), 5);
    Check.due("34 taken", traced.call("fault"), 0);
    Check.due("33 stays", traced.call("trace"), trace);
    Check.due("2 the SHEET stays", traced.call("cell", 0, 28, 0), '5');
    Check.due("2 the SHEET stays", traced.call("cell", 0, 29, 0), LeastAsked.LOST);
  }

  private static void faultsOfProvince() {
    int[] lengths = {29, 41, 7};
    for (Edge.Stage stage : new Edge.Stage[] {Edge.ROWS, Edge.FIVE}) {
      for (int lane = 0; lane < 3; lane++) {
        for (int i : new int[] {0, -1, 60}) for (int n : new int[] {0, 1, -1, 61}) {
          Edge.fails("2 nothing is no CAST", stage, Edge.NULL, "province", 3, lane, i, n);
          for (int k = 0; k < 3; k++) if (k != lane) Edge.fails("2", stage, Edge.CAST, "province", k, lane, i, n);
        }
        int length = lengths[lane];
        for (int n : new int[] {-1, -2, -100, Edge.LEAST}) {
          for (int i : new int[] {0, length, -1, length + 1, Edge.LEAST, Edge.MOST}) {
            Edge.fails("2", stage, Edge.SIZE, "province", lane, lane, i, n);
          }
        }
        for (int i : Edge.outside(0, length)) {
          for (int n : new int[] {0, 1, length, Edge.MOST}) Edge.fails("2", stage, Edge.INDEX, "province", lane, lane, i, n);
        }
        for (int i : new int[] {0, 1, length - 1, length}) {
          for (int n : Edge.outside(0, length - i)) {
            if (n > 0) Edge.fails("2", stage, Edge.INDEX, "province", lane, lane, i, n);
          }
        }
      }
    }
  }

  private static void ofPerson() {
    for (int s = 0; s < 3; s++) {
      for (int p = 0; p < Edge.PEOPLE[s]; p++) {
        for (int what : Edge.outside(0, 5)) Edge.refused("3", Edge.PROVINCES[s], Edge.OUTSIDE, "ofPerson", p, what);
      }
    }
    int[][] first = {{1, 1, 0, 5, 6, 1}, {0, 1, 1, 4, 4, 1}, {0, 9, 7, 9, 9, 3}};
    int[][] last = {{2, 0, 1, 3, 6, 0}, {1, 0, 6, 5, 6, 0}, {2, 0, 0, 0, 0, 1}};
    for (int s = 0; s < 3; s++) {
      for (int what = 0; what < 6; what++) {
        Edge.looks("3", Edge.PROVINCES[s], first[s][what], "ofPerson", 0, what);
        Edge.looks("3", Edge.PROVINCES[s], last[s][what], "ofPerson", Edge.PEOPLE[s] - 1, what);
      }
    }
  }

  private static final Edge.Stage ALL_KINDS = Edge.text("p019;g909;t979;h909;g000;t070;h000");

  private static void says() {
    int[] due = {9, 10, 18, 0, 1, 0};
    for (int p = 0; p < 6; p++) Edge.looks("3 SAYS", ALL_KINDS, due[p], "ofPerson", p, 4);
    for (int p = 0; p < 6; p++) {
      for (int wit = 0; wit < 10; wit++) {
        Caller x = Edge.at(ALL_KINDS);
        x.call("sharpen", p, wit);
        int[] says = {wit, wit + 1, 2 * wit};
        Check.due("3 SAYS by WIT " + wit, x.call("ofPerson", p, 4), says[p % 3]);
      }
    }
  }

  /** Of several who were ASKED as often the lesser is ahead. */
  private static void register() {
    Edge.Stage alike = Edge.text("p000;g500;g500;g500;g500;g500;g500");
    for (int p = 0; p < 6; p++) Edge.looks("3 all alike", alike, p, "ofPerson", p, 5);
    Edge.Stage down = Edge.text("p000;g900;g800;g700;g200;g100;g000");
    for (int p = 0; p < 6; p++) Edge.looks("3 the last is ahead", down, 5 - p, "ofPerson", p, 5);
    int[] places = {3, 4, 5, 0, 1, 2};
    for (int p = 0; p < 6; p++) Edge.looks("3 some alike", ALL_KINDS, places[p], "ofPerson", p, 5);
  }

  private static void weigh() {
    int[] was = {2, 9, 3};
    for (int m = 0; m < 3; m++) {
      Edge.looks("4", Edge.FIVE, was[m], "worth", m);
      for (int v = 0; v < 10; v++) Edge.becomes("5", Edge.FIVE, "weigh", m, was[m], v);
      for (int v : Edge.outside(0, 9)) Edge.refused("5", Edge.FIVE, Edge.OUTSIDE, "weigh", m, v);
    }
    Caller x = Edge.at(Edge.FIVE);
    Check.due("5", x.call("weigh", 1, 0), 9);
    int[] now = {2, 0, 3};
    for (int m = 0; m < 3; m++) Check.due("4 of it alone", x.call("worth", m), now[m]);
  }

  private static void teach() {
    int[] was = {7, 0, 7, 0, 7, 0};
    for (int p = 0; p < 6; p++) {
      for (int v = 0; v < 8; v++) Edge.becomes("6", Edge.SIX, "teach", p, was[p], v);
      for (int v : Edge.outside(0, 7)) Edge.refused("6", Edge.SIX, Edge.OUTSIDE, "teach", p, v);
    }
    Caller x = Edge.at(Edge.SIX);
    x.call("teach", 5, 6);
    for (int p = 0; p < 6; p++) Check.due("6 him alone", x.call("ofPerson", p, 2), p == 5 ? 6 : was[p]);
  }

  private static void sharpen() {
    int[] was = {9, 0, 9, 0, 9, 0};
    for (int p = 0; p < 6; p++) {
      for (int v = 0; v < 10; v++) Edge.becomes("7", Edge.SIX, "sharpen", p, was[p], v);
      for (int v : Edge.outside(0, 9)) Edge.refused("7", Edge.SIX, Edge.OUTSIDE, "sharpen", p, v);
    }
    Caller x = Edge.at(Edge.SIX);
    x.call("sharpen", 5, 8);
    for (int p = 0; p < 6; p++) Check.due("7 him alone", x.call("ofPerson", p, 3), p == 5 ? 8 : was[p]);
  }

  private static void brings() {
    int[][] due = {{9, 9, 9}, {0, 10, 90}, {18, 18, 18}, {0, 0, 0}, {0, 1, 9}, {0, 0, 0}};
    for (int p = 0; p < 6; p++) for (int m = 0; m < 3; m++) Edge.looks("8", ALL_KINDS, due[p][m], "brings", p, m);
    Edge.looks("8 the most", Edge.SIX, 162, "brings", 2, 2);
    for (int knows = 0; knows < 8; knows++) {
      Caller x = Edge.at(Edge.SIX);
      x.call("teach", 2, knows);
      for (int m = 0; m < 3; m++) Check.due("8 KNOWS " + knows, x.call("brings", 2, m), (knows >> m & 1) == 1 ? 162 : 18);
    }
  }
}
