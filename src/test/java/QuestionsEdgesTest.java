import java.util.Arrays;

/** The boundary cases of promises 9 to 11. */
public final class QuestionsEdgesTest {
  private static final int[] WHATS = {0, 1, 2, 3, 4, 10, 11, 12, 13, 14, 15};

  public static void main(String[] args) {
    questions();
    questionsTillTheEnd();
    feints();
    feintsAndQuestions();
    yearArguments();
    yearFaults();
    yearRows();
    eachPair();
    lastPair();
    pairByPair();
    refusedAheadOfWrong();
    cutPairs();
    longestYears();
    wrongFirstAndLast();
    learners();
    answersOfYears();
    yearAfterYear();
    Check.end();
  }

  private static void questions() {
    for (int m = 0; m < 3; m++) {
      int[] brought = {6, 54, 18};
      Caller x = Edge.at(Edge.FIVE);
      Check.due("9 FIRST is the last of five", x.call("question", m), 4);
      Check.due("9 once more", x.call("ofPerson", 4, 1), 1);
      Check.due("35 QUESTIONS", x.call("many", 1), 2);
      Check.due("35 BROUGHT", x.call("many", 2), 8 + brought[m]);
      Check.due("34 names none", x.call("fault"), Edge.SIZE);
      Check.due("9 of several the least", x.call("question", m), 0);
      Check.due("9 then the next", x.call("question", m), 1);
    }
    Caller alike = Edge.at(Edge.text("p000;g900;g900;g900;g900;g900;g900"));
    for (int q = 0; q < 13; q++) Check.due("9 in turn " + q, alike.call("question", 0), q % 6);
    Caller last = Edge.at(Edge.text("p000;g900;g900;g900;g900;g900;g000"));
    for (int q = 0; q < 9; q++) Check.due("9 the last " + q, last.call("question", 0), 5);
    Check.due("9 till he was ASKED as often", last.call("question", 0), 0);
  }

  /** As many as an object can be asked: 14 cells, 512 calls in all. */
  private static void questionsTillTheEnd() {
    Caller x = new Caller();
    Edge.text("p999;h979;h079").ready(x);
    int asked = 0;
    while (x.callsLeft() > 4) Check.due("9 the far end", x.call("question", asked % 3), asked++ < 9 ? 1 : asked % 2);
    Check.due("35 QUESTIONS", x.call("many", 1), asked);
    Check.due("35 BROUGHT", x.call("many", 2), asked * 162);
    Check.due("3 ASKED", x.call("ofPerson", 0, 1) + x.call("ofPerson", 1, 1), asked + 9);
  }

  private static void feints() {
    int[] firsts = {1, 4, 3};
    for (int s = 0; s < 3; s++) {
      for (int p = 0; p < Edge.PEOPLE[s]; p++) {
        if (p != firsts[s]) Edge.refused("10", Edge.PROVINCES[s], Edge.STATE, "feint", p);
      }
      Caller x = Edge.at(Edge.PROVINCES[s]);
      long questions = x.call("many", 1);
      long brought = x.call("many", 2);
      Check.due("10 FIRST", x.call("feint", firsts[s]), 1);
      Check.due("10 once more", x.call("ofPerson", firsts[s], 1), 1);
      Check.due("10 no QUESTION", x.call("many", 1), questions);
      Check.due("10 nothing is BROUGHT", x.call("many", 2), brought);
      Check.due("34 names none", x.call("fault"), Edge.SIZE);
    }
    Caller ten = Edge.at(Edge.text("p000;g900;g900"));
    Check.due("10 of several the least", ten.call("feint", 1), Edge.STATE);
    Check.due("10 beyond a digit", ten.call("feint", 0), 10);
    Check.due("10 not again", ten.call("feint", 0), Edge.STATE);
    Check.due("10 the other", ten.call("feint", 1), 10);
  }

  private static void feintsAndQuestions() {
    Caller x = Edge.at(Edge.text("p555;g001;g001"));
    Check.due("10", x.call("feint", 0), 1);
    Check.due("9 by a FEINT he is out of it", x.call("question", 0), 1);
    Check.due("9", x.call("question", 0), 0);
    Check.due("10 he is not FIRST", x.call("feint", 0), Edge.STATE);
    Check.due("35 two alone", x.call("many", 1), 2);
    Check.due("35 two alone", x.call("many", 2), 2);
  }

  private static void yearArguments() {
    for (Edge.Stage stage : new Edge.Stage[] {Edge.FRESH, Edge.ROWS, Edge.FIVE}) {
      for (int k = 0; k < 4; k++) {
        for (int n : Edge.outside(0, 20)) {
          for (int i : new int[] {0, -1, 61}) Edge.refused("11 n", stage, Edge.OUTSIDE, "year", k, 1, i, n, 0);
        }
        for (int what : Edge.outside(0, 4)) {
          if (what >= 10 && what <= 15) continue;
          for (int i : new int[] {0, -1, 61}) Edge.refused("11 what", stage, Edge.OUTSIDE, "year", k, 1, i, 0, what);
        }
        for (int what = 5; what < 10; what++) Edge.refused("11 what", stage, Edge.OUTSIDE, "year", k, 1, 0, 0, what);
      }
    }
  }

  private static void yearFaults() {
    int[] lengths = {29, 41, 7};
    for (Edge.Stage stage : new Edge.Stage[] {Edge.ROWS, Edge.FIVE}) {
      for (int what : WHATS) {
        for (int lane = 0; lane < 3; lane++) {
          for (int i : new int[] {0, -1, 61}) {
            Edge.fails("11 nothing is no CAST", stage, Edge.NULL, "year", 3, lane, i, 20, what);
            for (int k = 0; k < 3; k++) if (k != lane) Edge.fails("11", stage, Edge.CAST, "year", k, lane, i, 0, what);
          }
          for (int i : Edge.outside(0, lengths[lane])) {
            Edge.fails("11 no cells, but i", stage, Edge.INDEX, "year", lane, lane, i, 0, what);
            Edge.fails("11 i", stage, Edge.INDEX, "year", lane, lane, i, 20, what);
          }
          Edge.fails("11 one cell is not there", stage, Edge.INDEX, "year", lane, lane, lengths[lane] - 1, 1, what);
          Edge.fails("11 no cell is there", stage, Edge.INDEX, "year", lane, lane, lengths[lane], 1, what);
        }
        Edge.fails("11 one cell is not there", stage, Edge.INDEX, "year", 1, 1, 2, 20, what);
        Edge.fails("11 one cell is not there", stage, Edge.INDEX, "year", 2, 2, 0, 4, what);
        Edge.fails("11 two cells are not there", stage, Edge.INDEX, "year", 2, 2, 2, 3, what);
      }
    }
    for (int what : WHATS) {
      Edge.refused("11 no PROVINCE", Edge.ROWS, Edge.STATE, "year", 0, 0, 0, 14, what);
      Edge.refused("11 no PROVINCE", Edge.ROWS, Edge.STATE, "year", 1, 1, 41, 0, what);
      Edge.fails("11 nothing at all", Edge.FRESH, Edge.NULL, "year", 0, 0, 0, 0, what);
    }
  }

  /** Rows that just reach the end. */
  private static void yearRows() {
    Edge.looks("11 20 pairs to the end", Edge.FIVE, 5, "year", 1, 1, 1, 20, 10);
    Edge.looks("11 20 pairs from the beginning", Edge.FIVE, 5, "year", 1, 1, 0, 20, 10);
    Edge.looks("11 one pair at the end", Edge.FIVE, 6, "year", 1, 1, 39, 1, 0);
    Edge.looks("11 three of seven cells", Edge.FIVE, 1, "year", 2, 2, 1, 3, 14);
    for (int lane = 0; lane < 3; lane++) {
      int end = new int[] {29, 41, 7}[lane];
      Edge.looks("11 no pair at the end", Edge.FIVE, 0, "year", lane, lane, end, 0, 0);
      Edge.looks("11 no pair at the end", Edge.FIVE, Edge.NONE, "year", lane, lane, end, 0, 1);
      Edge.looks("11 no pair at the end", Edge.FIVE, 4, "year", lane, lane, end, 0, 4);
    }
  }

  private static Edge.Stage told(Edge.Stage stage, int... pairs) {
    return stage.then(Edge.row(2, Edge.INTS, pairs));
  }

  /** What FIRST WRONG (what 1) is for one pair alone: a refusal, 0, or NONE. */
  private static int dueOfPair(int whom, int deed, int people, int first) {
    boolean learns = deed == 10 || deed == 11 || deed == 12 || deed == 13 || deed == 14 || deed == 15;
    if (deed == 0) return whom == 0 || whom == 1 || whom == 2 ? Edge.NONE : Edge.UNKNOWN;
    if (deed == 1) return whom < 0 || whom >= people ? Edge.UNKNOWN : whom == first ? Edge.NONE : 0;
    if (!learns || whom < 0 || whom > 7) return Edge.OUTSIDE;
    return deed < 10 + people ? Edge.NONE : 0;
  }

  private static int[] about(int least, int most) {
    int[] far = Edge.outside(least, most);
    int[] all = Arrays.copyOf(far, far.length + most - least + 1);
    for (int v = least; v <= most; v++) all[far.length + v - least] = v;
    return all;
  }

  private static void eachPair() {
    int[] firsts = {1, 4, 3};
    for (int s = 0; s < 3; s++) {
      for (int deed : about(-1, 17)) {
        for (int whom : about(-1, 9)) {
          int due = dueOfPair(whom, deed, Edge.PEOPLE[s], firsts[s]);
          Edge.Stage stage = told(Edge.PROVINCES[s], whom, deed);
          if (due == Edge.UNKNOWN || due == Edge.OUTSIDE) {
            Edge.refused("11 pair", stage, due, "year", 2, 2, 0, 1, 0);
            Edge.refused("11 pair", stage, due, "year", 2, 2, 0, 1, 1);
          } else {
            Edge.looks("11 pair " + whom + ", " + deed, stage, due, "year", 2, 2, 0, 1, 1);
            if (due == 0) for (int what : WHATS) if (what != 1) Edge.looks("11 pair", stage, -100, "year", 2, 2, 0, 1, what);
          }
        }
      }
    }
  }

  /** A refusal of the last of 20 pairs; the cells behind them are not looked at. */
  private static void lastPair() {
    int[][] pairs = {{0, 2}, {0, -1}, {8, 10}, {-1, 15}, {3, 0}, {-1, 0}, {5, 1}, {-1, 1}};
    for (int k = 0; k < pairs.length; k++) {
      int[] row = new int[42];
      row[38] = pairs[k][0];
      row[39] = pairs[k][1];
      row[40] = 99;
      int due = k < 4 ? Edge.OUTSIDE : Edge.UNKNOWN;
      Edge.refused("11 the last pair", told(Edge.FIVE, row), due, "year", 2, 2, 0, 20, 1);
      Edge.looks("11 behind the last pair", told(Edge.FIVE, row), Edge.NONE, "year", 2, 2, 0, 19, 1);
      Edge.looks("11 ahead of the first pair", told(Edge.FIVE, 99, 99, 0, 0), 6, "year", 2, 2, 2, 1, 0);
    }
  }

  /** Of several pairs that are refused the first one tells how. */
  private static void pairByPair() {
    int[][] outside = {{0, 2}, {0, 16}, {8, 10}, {-1, 15}, {3, 9}};
    int[][] unknown = {{3, 0}, {-1, 0}, {5, 1}, {-1, 1}};
    for (int[] o : outside) {
      for (int[] u : unknown) {
        Edge.refused("11", told(Edge.FIVE, o[0], o[1], u[0], u[1]), Edge.OUTSIDE, "year", 2, 2, 0, 2, 0);
        Edge.refused("11", told(Edge.FIVE, u[0], u[1], o[0], o[1]), Edge.UNKNOWN, "year", 2, 2, 0, 2, 0);
        Edge.refused("11", told(Edge.FIVE, 0, 0, u[0], u[1], o[0], o[1]), Edge.UNKNOWN, "year", 2, 2, 0, 3, 1);
      }
    }
    Edge.refused("11 neither is as told", told(Edge.FIVE, 99, 99), Edge.OUTSIDE, "year", 2, 2, 0, 1, 0);
  }

  private static void refusedAheadOfWrong() {
    Edge.refused("11", told(Edge.FIVE, 0, 1, 0, 2), Edge.OUTSIDE, "year", 2, 2, 0, 2, 1);
    Edge.refused("11", told(Edge.FIVE, 0, 1, 3, 0), Edge.UNKNOWN, "year", 2, 2, 0, 2, 0);
    Edge.refused("11", told(Edge.FIVE, 0, 15, 5, 1), Edge.UNKNOWN, "year", 2, 2, 0, 2, 15);
    Edge.looks("11 only two are told", told(Edge.FIVE, 0, 1, 0, 0, 0, 2), 0, "year", 2, 2, 0, 2, 1);
  }

  private static void cutPairs() {
    Edge.Stage bytes = Edge.FIVE.then(Edge.row(2, Edge.BYTES, 257, 256, 260, 257));
    Edge.looks("11 bytes are cut: 1, 0", bytes, 54, "year", 2, 0, 0, 1, 0);
    Edge.looks("11 bytes are cut: 4, 1", bytes, Edge.NONE, "year", 2, 0, 2, 1, 1);
    Edge.Stage shorts = Edge.FIVE.then(Edge.row(2, Edge.SHORTS, 65537, -65536, 256, 0));
    Edge.looks("11 shorts are cut: 1, 0", shorts, 54, "year", 2, 1, 0, 1, 0);
    Edge.refused("11 256 is no MATTER", shorts, Edge.UNKNOWN, "year", 2, 1, 2, 1, 0);
    Edge.refused("11 an int is not cut", told(Edge.FIVE, 0, 65536), Edge.OUTSIDE, "year", 2, 2, 0, 1, 0);
    Edge.refused("11 an int is not cut", told(Edge.FIVE, 1 << 31, 0), Edge.UNKNOWN, "year", 2, 2, 0, 1, 0);
  }

  private static void longestYears() {
    Edge.Stage dear = Edge.text("p999;h979;h979").then(Edge.row(1, Edge.BYTES, new int[40]));
    Edge.looks("11 the most", dear, 20 * 162, "year", 1, 0, 0, 20, 0);
    Edge.looks("11 who", dear, 3, "year", 1, 0, 0, 20, 2);
    Edge.looks("11 all to one who KNOWS", dear, 20, "year", 1, 0, 0, 20, 3);
    Edge.looks("11 FIRST then", dear, 0, "year", 1, 0, 0, 20, 4);
    Edge.looks("11 FIRST then", dear, 1, "year", 1, 0, 0, 19, 4);
    Edge.looks("11 ASKED then", dear, 19, "year", 1, 0, 0, 20, 10);
    Edge.looks("11 ASKED then", dear, 19, "year", 1, 0, 0, 20, 11);
    Edge.looks("11 no such PERSON", dear, Edge.NONE, "year", 1, 0, 0, 20, 12);
    Edge.Stage poor = Edge.text("p000;g909;g009").then(Edge.row(1, Edge.BYTES, new int[40]));
    Edge.looks("11 all to one who does not", poor, 0, "year", 1, 0, 0, 20, 3);
    Edge.looks("11 him alone", poor, 2, "year", 1, 0, 0, 9, 2);
    Edge.looks("11 nine of him", poor, 81, "year", 1, 0, 0, 9, 0);
    Edge.looks("11 not the tenth", poor, 3, "year", 1, 0, 0, 10, 2);
  }

  private static void wrongFirstAndLast() {
    int[] feints = new int[40];
    for (int k = 0; k < 20; k++) {
      feints[2 * k] = k % 2;
      feints[2 * k + 1] = 1;
    }
    Edge.Stage alike = Edge.text("p000;g000;g000");
    Edge.looks("11 20 FEINTS", told(alike, feints), Edge.NONE, "year", 2, 2, 0, 20, 1);
    Edge.looks("11 20 FEINTS BRING nothing", told(alike, feints), 0, "year", 2, 2, 0, 20, 0);
    Edge.looks("11 20 FEINTS ask nobody", told(alike, feints), 0, "year", 2, 2, 0, 20, 2);
    Edge.looks("11 20 FEINTS go to nobody", told(alike, feints), 0, "year", 2, 2, 0, 20, 3);
    Edge.looks("11 ASKED by FEINTS", told(alike, feints), 10, "year", 2, 2, 0, 20, 11);
    Edge.looks("11 the first act", told(alike, feints), 0, "year", 2, 2, 2, 19, 1);
    for (int wrong = 0; wrong < 20; wrong++) {
      int[] broken = feints.clone();
      broken[2 * wrong] = 1 - broken[2 * wrong];
      Edge.looks("11 act " + wrong, told(alike, broken), wrong, "year", 2, 2, 0, 20, 1);
      for (int what : WHATS) if (what != 1) Edge.looks("11", told(alike, broken), -100 - wrong, "year", 2, 2, 0, 20, what);
    }
  }

  /** There must be such a PERSON to KNOW it: that is no refusal, but an act that can't be. */
  private static void learners() {
    for (int s = 0; s < 3; s++) {
      for (int p = 0; p < 6; p++) {
        for (int knows : new int[] {0, 7}) {
          int due = p < Edge.PEOPLE[s] ? Edge.NONE : 1;
          Edge.looks("11 KNOWS", told(Edge.PROVINCES[s], 0, 0, knows, 10 + p), due, "year", 2, 2, 0, 2, 1);
        }
      }
    }
    for (int knows = 0; knows < 8; knows++) {
      for (int m = 0; m < 3; m++) {
        int known = knows >> m & 1;
        Edge.Stage stage = told(Edge.FIVE, knows, 14, m, 0);
        Edge.looks("11 KNOWS " + knows, stage, known, "year", 2, 2, 0, 2, 3);
        Edge.looks("11 KNOWS " + knows, stage, known == 1 ? 6 * new int[] {2, 9, 3}[m] : 6, "year", 2, 2, 0, 2, 0);
        Edge.looks("11 too late", told(Edge.FIVE, m, 0, knows, 14), m == 0 ? 0 : 1, "year", 2, 2, 0, 2, 3);
      }
    }
  }

  private static void answersOfYears() {
    int[] asked = {1, 1, 1, 2, 0};
    for (int p = 0; p < 6; p++) Edge.looks("11 of none", Edge.FIVE, p < 5 ? asked[p] : Edge.NONE, "year", 1, 1, 0, 0, 10 + p);
    int[] empty = {0, Edge.NONE, 0, 0, 4};
    for (int what = 0; what < 5; what++) Edge.looks("11 of none", Edge.FIVE, empty[what], "year", 1, 1, 0, 0, what);
    Edge.looks("11 a wrong one has no such PERSON", told(Edge.FIVE, 0, 1), -100, "year", 2, 2, 0, 1, 15);
    Edge.looks("11 three of six", Edge.SIX, 0b101010, "year", 1, 1, 0, 20, 2);
    Edge.looks("11 the last of six", Edge.SIX, 7, "year", 1, 1, 0, 20, 15);
  }

  /** Each YEAR begins from how all is now: nothing of the YEAR told ahead of it, nor of a wrong one, is left. */
  private static void yearAfterYear() {
    Caller x = Edge.at(told(Edge.FIVE, 1, 0, 0, 0, 0, 1));
    int[] due = {54 + 8, Edge.NONE, 0b10001, 2, 1, 2, 1, 1, 2, 1, Edge.NONE};
    for (int round = 0; round < 2; round++) {
      for (int w = 0; w < WHATS.length; w++) {
        Check.due("11 a wrong one ahead", x.call("year", 2, 2, 0, 3, 1), 2);
        Check.due("11 then what " + WHATS[w], x.call("year", 2, 2, 0, 2, WHATS[w]), due[w]);
      }
    }
    int[] none = {0, Edge.NONE, 0, 0, 4, 1, 1, 1, 2, 0, Edge.NONE};
    for (int w = 0; w < WHATS.length; w++) Check.due("11 then none", x.call("year", 2, 2, 0, 0, WHATS[w]), none[w]);
    Caller learned = Edge.at(told(Edge.FIVE, 0, 14, 1, 0));
    Check.due("11 he does not KNOW it then", learned.call("year", 2, 2, 0, 2, 0), 6);
    Check.due("11 he KNOWS it now", learned.call("year", 2, 2, 2, 1, 0), 54);
    Check.due("11 he KNOWS it now", learned.call("ofPerson", 4, 2), 6);
  }
}
