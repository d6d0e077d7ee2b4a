/** The boundary cases of promises 18 to 24. */
public final class ReadingsEdgesTest {
  private static final Edge.Stage PLAIN = Edge.text("p219;g014;t033;h009;g070;t000;h979");

  public static void main(String[] args) {
    readingValues();
    readingsTillFull();
    back();
    noReadings();
    knowings();
    wits();
    kinds();
    worths();
    farReadings();
    readingsOfOthers();
    oddsArguments();
    oddsOfAll();
    oddsInLeastTerms();
    Check.end();
  }

  private static void readingValues() {
    for (Edge.Stage stage : new Edge.Stage[] {Edge.TWO, Edge.FIVE}) {
      for (int v : Edge.outside(0, 200)) {
        for (int m = 0; m < 3; m++) Edge.refused("18", stage, Edge.OUTSIDE, "reading", 1, m, v);
      }
    }
    for (int v : new int[] {0, 1, 162, 163, 199, 200}) {
      Caller x = Edge.at(Edge.FIVE);
      Check.due("18 taken: " + v, x.call("reading", 4, 2, v), 2);
      Check.due("18 one more", x.call("many", 3), 3);
      Check.due("34 names none", x.call("fault"), Edge.SIZE);
    }
  }

  private static void readingsTillFull() {
    Caller x = Edge.at(PLAIN);
    for (int r = 0; r < 8; r++) {
      Check.due("35 so many", x.call("many", 3), r);
      Check.due("18 its number", x.call("reading", r % 6, r % 3, r), r);
    }
    Check.due("18 a ninth", x.call("reading", 0, 0, 0), Edge.FULL);
    Check.due("35 eight", x.call("many", 3), 8);
    for (int p = 0; p < 6; p++) for (int m = 0; m < 3; m++) Edge.refused("18 full", Edge.SIX, Edge.FULL, "reading", p, m, 200);
    for (int v : Edge.outside(0, 200)) Edge.refused("18 OUTSIDE is ahead of FULL", Edge.SIX, Edge.OUTSIDE, "reading", 0, 0, v);
    Edge.refused("18 UNKNOWN is ahead of FULL", Edge.SIX, Edge.UNKNOWN, "reading", 6, 0, 0);
    Edge.refused("18 UNKNOWN is ahead of FULL", Edge.SIX, Edge.UNKNOWN, "reading", 0, 3, 0);
    Caller again = Edge.at(Edge.SIX);
    Check.due("19 one less", again.call("back", 1), 7);
    Check.due("18 not full any more", again.call("reading", 0, 0, 0), 7);
    Check.due("18 full again", again.call("reading", 0, 0, 0), Edge.FULL);
    Check.due("19 all", again.call("back", 8), 0);
    Check.due("18 from 0 on", again.call("reading", 5, 2, 0), 0);
  }

  private static void back() {
    Edge.Stage[] stages = {Edge.TWO, Edge.FIVE, Edge.SIX};
    int[] there = {0, 2, 8};
    for (int s = 0; s < 3; s++) {
      Edge.looks("19 none", stages[s], there[s], "back", 0);
      for (int n : Edge.outside(0, there[s])) Edge.refused("19", stages[s], Edge.OUTSIDE, "back", n);
      for (int n = 0; n <= there[s]; n++) {
        Caller x = Edge.at(stages[s]);
        Check.due("19 " + n + " of " + there[s], x.call("back", n), there[s] - n);
        Check.due("35 left", x.call("many", 3), there[s] - n);
        Check.due("34 names none", x.call("fault"), Edge.SIZE);
        Check.due("19 one too many", x.call("back", there[s] - n + 1), Edge.OUTSIDE);
      }
    }
    Caller last = Edge.at(PLAIN);
    last.call("reading", 0, 0, 8);
    last.call("reading", 0, 0, 6);
    Check.due("21 both can't be", last.call("wits", 0), 0);
    Check.due("19 the last one", last.call("back", 1), 1);
    Check.due("21 the first one is left", last.call("wits", 0), 1 << 4);
  }

  private static void noReadings() {
    for (Edge.Stage stage : new Edge.Stage[] {Edge.TWO, PLAIN}) {
      int people = stage == PLAIN ? 6 : 2;
      for (int p = 0; p < people; p++) {
        Edge.looks("20 all", stage, 255, "knowings", p);
        Edge.looks("21 all", stage, 1023, "wits", p);
        Edge.looks("22 all", stage, 7, "kinds", p);
      }
      for (int m = 0; m < 3; m++) Edge.looks("23 all", stage, 1023, "worths", m);
    }
  }

  private static Edge.Stage read(Edge.Stage stage, int... readings) {
    return stage.then(x -> {
      for (int r = 0; r < readings.length; r += 3) x.call("reading", readings[r], readings[r + 1], readings[r + 2]);
    });
  }

  private static void knowings() {
    Edge.looks("20 all but", read(PLAIN, 0, 0, 8), 0b10101010, "knowings", 0);
    Edge.looks("20 not", read(PLAIN, 0, 0, 4), 0b01010101, "knowings", 0);
    Edge.looks("20 worth 1 tells nothing", read(PLAIN, 0, 1, 4), 255, "knowings", 0);
    Edge.looks("20 7 alone", read(Edge.text("p222;g001;g001"), 1, 0, 2, 1, 1, 2, 1, 2, 2), 1 << 7, "knowings", 1);
    Edge.looks("20 0 alone", read(Edge.text("p222;g001;g001"), 1, 0, 1, 1, 1, 1, 1, 2, 1), 1, "knowings", 1);
    Edge.looks("20 none", read(PLAIN, 0, 0, 5), 0, "knowings", 0);
    Edge.looks("20 he SAYS nothing", read(PLAIN, 3, 2, 0), 255, "knowings", 3);
    Edge.looks("20 a hermit", read(PLAIN, 5, 2, 162), 0b11110000, "knowings", 5);
    Edge.looks("20 one READING twice", read(PLAIN, 0, 0, 8, 0, 0, 8), 0b10101010, "knowings", 0);
    Edge.looks("20 against each other", read(PLAIN, 0, 0, 8, 0, 0, 4), 0, "knowings", 0);
  }

  private static void wits() {
    Edge.looks("21 0", read(PLAIN, 0, 0, 0), 1, "wits", 0);
    Edge.looks("21 9", read(PLAIN, 0, 0, 18), 1 << 9, "wits", 0);
    Edge.looks("21 10 is none", read(PLAIN, 0, 0, 20), 0, "wits", 0);
    Edge.looks("21 a half is none", read(PLAIN, 0, 0, 9), 0, "wits", 0);
    Edge.looks("21 a twin's 0", read(PLAIN, 4, 0, 1), 1, "wits", 4);
    Edge.looks("21 a twin's 9", read(PLAIN, 4, 0, 10), 1 << 9, "wits", 4);
    Edge.looks("21 a twin SAYS 1 at least", read(PLAIN, 4, 0, 0), 0, "wits", 4);
    Edge.looks("21 a twin SAYS 10 at most", read(PLAIN, 4, 0, 11), 0, "wits", 4);
    Edge.looks("21 a hermit's 9", read(PLAIN, 5, 2, 162), 1 << 9, "wits", 5);
    Edge.looks("21 a hermit's 0", read(PLAIN, 5, 2, 0), 1, "wits", 5);
    Edge.looks("21 a hermit SAYS no odd number", read(PLAIN, 2, 0, 17), 0, "wits", 2);
    Edge.looks("21 worth nothing", read(Edge.text("p000;g079;g079"), 0, 0, 0), 1023, "wits", 0);
    Edge.looks("21 worth nothing", read(Edge.text("p000;g079;g079"), 0, 0, 1), 0, "wits", 0);
  }

  private static void kinds() {
    Edge.Stage stage = Edge.text("p111;g000;g001;g009");
    Edge.looks("22 WIT 0: no twin", read(stage, 0, 0, 0), 0b101, "kinds", 0);
    Edge.looks("22 WIT 0: a twin", read(stage, 0, 0, 1), 0b010, "kinds", 0);
    Edge.looks("22 WIT 1: a gooseherd", read(stage, 1, 0, 1), 0b001, "kinds", 1);
    Edge.looks("22 WIT 1: no gooseherd", read(stage, 1, 0, 2), 0b110, "kinds", 1);
    Edge.looks("22 WIT 9: a gooseherd", read(stage, 2, 0, 9), 0b001, "kinds", 2);
    Edge.looks("22 WIT 9: a twin", read(stage, 2, 0, 10), 0b010, "kinds", 2);
    Edge.looks("22 WIT 9: a hermit", read(stage, 2, 0, 18), 0b100, "kinds", 2);
    Edge.looks("22 WIT 9: none", read(stage, 2, 0, 11), 0, "kinds", 2);
    Edge.looks("22 worth nothing: all", read(Edge.text("p000;g070;g070"), 1, 2, 0), 0b111, "kinds", 1);
  }

  private static void worths() {
    Edge.Stage stage = Edge.text("p555;g079;g070;g001");
    for (int m = 0; m < 3; m++) {
      for (int worth = 0; worth < 10; worth++) {
        Edge.looks("23 " + worth, read(stage, 0, m, 9 * worth), 1 << worth, "worths", m);
      }
      Edge.looks("23 10 is none", read(stage, 0, m, 90), 0, "worths", m);
      Edge.looks("23 he SAYS nothing", read(stage, 1, m, 0), 1023, "worths", m);
      Edge.looks("23 he SAYS nothing", read(stage, 1, m, 1), 0, "worths", m);
      Edge.looks("23 he does not KNOW it", read(stage, 2, m, 1), 1023, "worths", m);
      Edge.looks("23 he does not KNOW it", read(stage, 2, m, 5), 0, "worths", m);
    }
  }

  /** 163 .. 200 are READINGS that can't be so. */
  private static void farReadings() {
    for (int v : new int[] {163, 200}) {
      Edge.looks("20 too much", read(PLAIN, 5, 2, v), 0, "knowings", 5);
      Edge.looks("21 too much", read(PLAIN, 5, 2, v), 0, "wits", 5);
      Edge.looks("22 too much", read(PLAIN, 5, 2, v), 0, "kinds", 5);
      Edge.looks("23 too much", read(PLAIN, 5, 2, v), 0, "worths", 2);
    }
    Edge.looks("20 eight READINGS", Edge.SIX, 1 << 7, "knowings", 2);
    Edge.looks("21 eight READINGS", Edge.SIX, 1 << 9, "wits", 2);
    Edge.looks("22 eight READINGS", Edge.SIX, 1 << 2, "kinds", 2);
    Edge.looks("23 eight READINGS", Edge.SIX, 1 << 9, "worths", 0);
    int[] eighth = {2, 0, 18, 2, 0, 18, 2, 0, 18, 2, 0, 18, 2, 0, 18, 2, 0, 18, 2, 0, 18, 2, 0, 16};
    Edge.looks("21 the eighth is not so", read(PLAIN, eighth), 0, "wits", 2);
  }

  /** All READINGS must be so, those of others as well. */
  private static void readingsOfOthers() {
    Edge.Stage notSo = read(PLAIN, 0, 0, 7);
    Edge.Stage isSo = read(PLAIN, 0, 0, 8);
    for (int p = 1; p < 6; p++) {
      Edge.looks("20 another's is not so", notSo, 0, "knowings", p);
      Edge.looks("21 another's is not so", notSo, 0, "wits", p);
      Edge.looks("22 another's is not so", notSo, 0, "kinds", p);
      Edge.looks("20 another's is so", isSo, 255, "knowings", p);
      Edge.looks("21 another's is so", isSo, 1023, "wits", p);
      Edge.looks("22 another's is so", isSo, 7, "kinds", p);
    }
    for (int m = 1; m < 3; m++) {
      Edge.looks("23 another's is not so", notSo, 0, "worths", m);
      Edge.looks("23 another's is so", isSo, 1023, "worths", m);
    }
  }

  private static void oddsArguments() {
    for (int p = 0; p < 5; p++) {
      for (int v : Edge.outside(0, 200)) for (int which = 0; which < 2; which++) Edge.refused("24 v", Edge.FIVE, Edge.OUTSIDE, "odds", p, v, which);
      for (int which : Edge.outside(0, 1)) for (int v : new int[] {0, 200}) Edge.refused("24 which", Edge.FIVE, Edge.OUTSIDE, "odds", p, v, which);
    }
  }

  private static void odds(String name, Edge.Stage stage, int p, int v, int upper, int lower) {
    Edge.looks("24 " + name, stage, upper, "odds", p, v, 0);
    Edge.looks("24 " + name, stage, lower, "odds", p, v, 1);
  }

  private static void oddsOfAll() {
    for (int p = 0; p < 6; p++) {
      odds("0 or more, always", PLAIN, p, 0, 1, 1);
      odds("200 or more, never", PLAIN, p, 200, 0, 1);
    }
    Edge.Stage dear = Edge.text("p999;h979;h009");
    odds("what he SAYS", dear, 0, 18, 1, 1);
    odds("more than that", dear, 0, 19, 1, 2);
    odds("the most", dear, 0, 162, 1, 2);
    odds("more than the most", dear, 0, 163, 0, 1);
    odds("what he KNOWS is not looked at", dear, 1, 162, 1, 2);
    odds("he SAYS nothing", Edge.text("p999;h070;g000"), 0, 0, 1, 1);
    odds("he SAYS nothing", Edge.text("p999;h070;g000"), 0, 1, 0, 1);
  }

  /** 4 of 24 ways for each MATTER that he KNOWS, and 4 for each that he does not. */
  private static void oddsInLeastTerms() {
    Edge.Stage none = Edge.text("p000;g001;g001");
    odds("three are worth nothing", none, 0, 1, 1, 2);
    odds("two are worth nothing", Edge.text("p001;g001;g001"), 0, 1, 2, 3);
    odds("one is worth nothing", Edge.text("p011;g001;g001"), 0, 1, 5, 6);
    odds("none is worth nothing", Edge.text("p111;g001;g001"), 0, 1, 1, 1);
    odds("one is worth 2", Edge.text("p211;g001;g001"), 0, 2, 1, 6);
    odds("two are worth 2", Edge.text("p221;g001;g001"), 0, 2, 1, 3);
    odds("three are worth 2", Edge.text("p222;g001;g001"), 0, 2, 1, 2);
  }
}
