/** Promises 1 to 8. */
public final class ProvinceTest {
  public static void main(String[] args) {
    newObject();
    texts();
    faultsOfTexts();
    refusalsOfProvince();
    allAnew();
    ofPerson();
    worthAndWeigh();
    teachAndSharpen();
    brings();
    Check.end();
  }

  private static void newObject() {
    LeastAsked x = new LeastAsked();
    for (int what = 0; what < 4; what++) Check.due("1 many " + what, x.many(what), 0);
    for (int k = 0; k < 4; k++) {
      Check.due("1 lose " + k, x.lose(k), 0);
      Check.due("1 put " + k, x.put(k, 0, 0), Check.NULL);
    }
    LeastAsked y = new LeastAsked();
    Check.due("1 fault", y.fault(), 0);
    Check.due("1 trace", y.trace(), 0);
    Check.due("1 ofPerson", y.ofPerson(0, 9), LeastAsked.UNKNOWN);
    Check.due("1 worth", y.worth(0), LeastAsked.UNKNOWN);
    Check.due("1 weigh", y.weigh(0, 10), LeastAsked.UNKNOWN);
    Check.due("1 question", y.question(0), LeastAsked.UNKNOWN);
    Check.due("1 steer", y.steer(0), LeastAsked.UNKNOWN);
    Check.due("1 worths", y.worths(0), LeastAsked.UNKNOWN);
  }

  private static void texts() {
    LeastAsked x = new LeastAsked();
    String six = "p000;g000;t979;h979;g000;g000;g000";
    for (int people = 2; people <= 6; people++) {
      Check.due("2 people " + people, Check.taken(x, six.substring(0, 4 + 5 * people)), people);
      Check.due("2 many " + people, x.many(0), people);
    }
    for (int lane = 0; lane < 3; lane++) {
      Check.row(x, 2, lane, Check.codes("xyp129;h979;t005z"));
      Check.due("2 from i on", x.province(2, lane, 2, 14), 2);
      Check.due("2 kind", x.ofPerson(0, 0), 2);
      Check.due("2 asked", x.ofPerson(0, 1), 9);
      Check.due("2 knows", x.ofPerson(0, 2), 7);
      Check.due("2 wit", x.ofPerson(0, 3), 9);
      Check.due("2 kind", x.ofPerson(1, 0), 1);
      Check.due("2 wit", x.ofPerson(1, 3), 5);
      Check.due("2 worth", x.worth(2), 9);
      Check.due("2 one code more", x.province(2, lane, 2, 15), -114);
    }
  }

  private static void faultsOfTexts() {
    String six = Check.FIVE + ";h555";
    for (int n = 0; n < six.length(); n++) {
      boolean whole = n >= 14 && (n - 4) % 5 == 0;
      if (!whole) Check.due("2 just ends at " + n, Check.taken(new LeastAsked(), six.substring(0, n)), -100 - n);
    }
    for (int at = 0; at < six.length(); at++) {
      String broken = six.substring(0, at) + "/" + six.substring(at + 1);
      Check.due("2 broken at " + at, Check.taken(new LeastAsked(), broken), -100 - at);
    }
    LeastAsked x = Check.of(Check.FIVE);
    Check.due("2 a seventh", Check.taken(x, six + ";g000"), -134);
    Check.due("2 behind six", Check.taken(x, six + "x"), -134);
    Check.due("2 knows 8", Check.taken(x, "p123;g080;g000"), -107);
    Check.due("2 : is no digit", Check.taken(x, "p12:;g000;g000"), -103);
    Check.due("2 a great letter", Check.taken(x, "p123;G000;g000"), -105);
    Check.due("2 no ;", Check.taken(x, "p123;g000;g0000"), -114);
    Check.due("2 first of two", Check.taken(x, "p123;x08"), -105);
    Check.due("2 fault too soon", Check.taken(x, "x"), -100);
    Check.due("2 not the fault of a machine", x.fault(), 0);
    Check.due("2 nothing is changed", x.many(0), 5);
    Check.due("2 nothing is changed", x.worth(1), 9);
    Check.row(x, 1, Check.INTS, 'p' + 256, '1', '2', '3');
    Check.due("2 an int is not cut", x.province(1, Check.INTS, 0, 4), -100);
    Check.row(x, 1, Check.BYTES, 'p' + 256, '1', '2', '3');
    Check.due("2 a byte was cut", x.province(1, Check.BYTES, 0, 4), -104);
  }

  private static void refusalsOfProvince() {
    LeastAsked x = Check.of(Check.FIVE);
    Check.due("2 sheet -1", x.province(-1, 9, 0, 0), LeastAsked.UNKNOWN);
    Check.due("2 sheet 4", x.province(4, 0, 0, 0), LeastAsked.UNKNOWN);
    Check.due("2 lane -1", x.province(1, -1, 0, -1), LeastAsked.OUTSIDE);
    Check.due("2 lane 3", x.province(0, 3, 0, -1), LeastAsked.OUTSIDE);
    Check.due("2 fault", x.fault(), 0);
    Check.due("2 nothing", x.province(1, 2, 0, -1), Check.NULL);
    Check.due("2 fault", x.fault(), 1);
    Check.due("2 another lane", x.province(0, 1, 0, -1), Check.CAST);
    Check.due("2 fault", x.fault(), 2);
    Check.due("2 size", x.province(0, 0, -1, -1), Check.SIZE);
    Check.due("2 fault", x.fault(), 4);
    Check.due("2 i below 0", x.province(0, 0, -1, 0), Check.INDEX);
    Check.due("2 fault", x.fault(), 3);
    Check.due("2 i beyond", x.province(0, 0, 30, 0), Check.INDEX);
    Check.due("2 i at the end", x.province(0, 0, 29, 0), -100);
    Check.due("2 fault is over", x.fault(), 0);
    Check.due("2 too many", x.province(0, 0, 1, 29), Check.INDEX);
    Check.due("2 far too many", x.province(0, 0, 29, Integer.MAX_VALUE), Check.INDEX);
    Check.due("2 all is as it was", x.many(0), 5);
    x.lose(0);
    Check.due("2 lost", x.province(0, 0, 0, 0), Check.NULL);
  }

  private static void allAnew() {
    LeastAsked x = Check.of(Check.FIVE);
    x.question(0);
    x.reading(0, 0, 8);
    x.tell(0);
    Check.due("2 refused", x.province(0, 0, 0, 28), -128);
    Check.due("2 questions stay", x.many(1), 1);
    Check.due("2 readings stay", x.many(3), 1);
    Check.due("2 anew", x.province(0, 0, 0, 19), 3);
    Check.due("2 people", x.many(0), 3);
    Check.due("2 questions", x.many(1), 0);
    Check.due("2 brought", x.many(2), 0);
    Check.due("2 readings", x.many(3), 0);
    Check.due("2 asked", x.ofPerson(0, 1), 0);
    Check.due("2 people are gone", x.ofPerson(3, 0), LeastAsked.UNKNOWN);
    Check.due("2 the trace stays", x.trace(), 1);
    Check.due("2 the sheet stays", x.cell(0, 0, 0), 'p');
  }

  private static void ofPerson() {
    LeastAsked x = Check.of(Check.FIVE);
    int[][] all = {{0, 0, 1, 4, 4, 0}, {1, 1, 2, 1, 2, 3}, {2, 0, 4, 7, 14, 1}, {0, 2, 7, 3, 3, 4}, {1, 0, 6, 5, 6, 2}};
    for (int p = 0; p < 5; p++) {
      for (int what = 0; what < 6; what++) Check.due("3 of " + p + ", " + what, x.ofPerson(p, what), all[p][what]);
      Check.due("3 what", x.ofPerson(p, -1), LeastAsked.OUTSIDE);
      Check.due("3 what", x.ofPerson(p, 6), LeastAsked.OUTSIDE);
    }
    Check.due("3 no such", x.ofPerson(-1, 6), LeastAsked.UNKNOWN);
    Check.due("3 no such", x.ofPerson(5, 0), LeastAsked.UNKNOWN);
    LeastAsked y = Check.of("p000;h000;t000");
    Check.due("3 a hermit says nothing", y.ofPerson(0, 4), 0);
    Check.due("3 a twin says 1", y.ofPerson(1, 4), 1);
  }

  private static void worthAndWeigh() {
    LeastAsked x = Check.of(Check.FIVE);
    int[] worths = {2, 9, 3};
    for (int m = 0; m < 3; m++) {
      Check.due("4 worth", x.worth(m), worths[m]);
      Check.due("5 too little", x.weigh(m, -1), LeastAsked.OUTSIDE);
      Check.due("5 too much", x.weigh(m, 10), LeastAsked.OUTSIDE);
      Check.due("5 weigh", x.weigh(m, 9 - m), worths[m]);
      Check.due("5 weigh", x.weigh(m, 0), 9 - m);
      Check.due("4 worth then", x.worth(m), 0);
    }
    for (int m : new int[] {-1, 3}) {
      Check.due("4 no such", x.worth(m), LeastAsked.UNKNOWN);
      Check.due("5 no such", x.weigh(m, 10), LeastAsked.UNKNOWN);
    }
  }

  private static void teachAndSharpen() {
    LeastAsked x = Check.of(Check.FIVE);
    Check.due("6 teach", x.teach(3, 0), 7);
    Check.due("6 teach", x.teach(3, 7), 0);
    Check.due("6 knows", x.ofPerson(3, 2), 7);
    Check.due("6 outside", x.teach(3, 8), LeastAsked.OUTSIDE);
    Check.due("6 outside", x.teach(3, -1), LeastAsked.OUTSIDE);
    Check.due("6 no such", x.teach(5, 8), LeastAsked.UNKNOWN);
    Check.due("6 no such", x.teach(-1, 0), LeastAsked.UNKNOWN);
    Check.due("7 sharpen", x.sharpen(2, 9), 7);
    Check.due("7 sharpen", x.sharpen(2, 0), 9);
    Check.due("7 outside", x.sharpen(2, 10), LeastAsked.OUTSIDE);
    Check.due("7 outside", x.sharpen(2, -1), LeastAsked.OUTSIDE);
    Check.due("7 wit", x.ofPerson(2, 3), 0);
    Check.due("7 no such", x.sharpen(5, 10), LeastAsked.UNKNOWN);
    Check.due("7 no such", x.sharpen(-1, 0), LeastAsked.UNKNOWN);
  }

  private static void brings() {
    LeastAsked x = Check.of(Check.FIVE);
    int[][] all = {{8, 4, 4}, {2, 18, 2}, {14, 14, 42}, {6, 27, 9}, {6, 54, 18}};
    for (int p = 0; p < 5; p++) {
      for (int m = 0; m < 3; m++) Check.due("8 " + p + ", " + m, x.brings(p, m), all[p][m]);
      Check.due("8 no such matter", x.brings(p, 3), LeastAsked.UNKNOWN);
      Check.due("8 no such matter", x.brings(p, -1), LeastAsked.UNKNOWN);
    }
    Check.due("8 no such person", x.brings(5, 0), LeastAsked.UNKNOWN);
    Check.due("8 no such person", x.brings(-1, 0), LeastAsked.UNKNOWN);
    x.weigh(1, 0);
    Check.due("8 known, and worth nothing", x.brings(4, 1), 0);
    Check.due("8 not known", x.brings(0, 1), 4);
    x.sharpen(0, 0);
    x.teach(4, 0);
    Check.due("8 no wit", x.brings(0, 0), 0);
    Check.due("8 knows no more", x.brings(4, 1), 6);
  }
}
