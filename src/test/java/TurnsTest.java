/** Promises 12 to 17. */
public final class TurnsTest {
  public static void main(String[] args) {
    registers();
    turns();
    steers();
    evens();
    plans();
    refusalsOfPlans();
    best();
    bestOfTwo();
    fewerThanBefore();
    Check.end();
  }

  private static void registers() {
    LeastAsked x = Check.of(Check.FIVE);
    int[] at = {0, 2, 4, 1, 3, -9};
    for (int k = 0; k < 6; k++) Check.due("12 place " + k, x.register(k), at[k]);
    Check.due("12 outside", x.register(-1), LeastAsked.OUTSIDE);
    Check.due("12 outside", x.register(6), LeastAsked.OUTSIDE);
    x.feint(0);
    int[] then = {2, 4, 0, 1, 3, -9};
    for (int k = 0; k < 6; k++) Check.due("12 then " + k, x.register(k), then[k]);
    LeastAsked six = Check.of("p000;g900;g800;g700;g600;g500;g400");
    for (int k = 0; k < 6; k++) Check.due("12 of six " + k, six.register(k), 5 - k);
    LeastAsked none = new LeastAsked();
    Check.due("12 no province", none.register(0), LeastAsked.STATE);
    Check.due("12 outside", none.register(6), LeastAsked.OUTSIDE);
  }

  private static void turns() {
    LeastAsked x = Check.of(Check.FIVE);
    int[] turns = {0, 4, 1, 10, 2};
    for (int p = 0; p < 5; p++) Check.due("13 turn " + p, x.turn(p), turns[p]);
    Check.due("13 no such", x.turn(-1), LeastAsked.UNKNOWN);
    Check.due("13 no such", x.turn(5), LeastAsked.UNKNOWN);
    LeastAsked far = Check.of("p000;g000;g000;g000;g000;g000;g900");
    Check.due("13 the farthest", far.turn(5), 50);
    LeastAsked far0 = Check.of("p000;g900;g000;g000;g000;g000;g000");
    Check.due("13 the farthest of the first", far0.turn(0), 45);
    for (int q = 0; q < 45; q++) far0.question(q % 3);
    Check.due("13 now", far0.turn(0), 0);
    Check.due("13 it was so", far0.question(0), 0);
  }

  private static void steers() {
    LeastAsked x = Check.of(Check.FIVE);
    Check.due("14 first knows", x.steer(0), 0);
    Check.due("14 steer", x.steer(1), 2);
    Check.due("14 steer", x.steer(2), 1);
    x.teach(0, 0);
    Check.due("14 the last one", x.steer(0), 10);
    x.teach(3, 0);
    Check.due("14 nobody", x.steer(0), LeastAsked.NONE);
    Check.due("14 no such", x.steer(3), LeastAsked.UNKNOWN);
    Check.due("14 no such", x.steer(-1), LeastAsked.UNKNOWN);
    Check.due("14 nothing is changed", x.ofPerson(0, 1), 0);
  }

  private static void evens() {
    LeastAsked x = Check.of(Check.FIVE);
    Check.due("15 even", x.even(), 7);
    for (int q = 7; q > 0; q--) {
      Check.due("15 even", x.even(), q);
      x.question(0);
    }
    Check.due("15 even now", x.even(), 0);
    x.question(0);
    Check.due("15 even again", x.even(), 4);
    Check.due("15 no province", new LeastAsked().even(), LeastAsked.STATE);
    Check.due("15 never asked", Check.of("p000;g000;g000").even(), 0);
    Check.due("15 far", Check.of("p000;g000;g000;g000;g900;g000;g000").even(), 45);
  }

  /** What they BRING together, then the row. */
  private static void planned(LeastAsked x, int[] matters, int... due) {
    for (int lane = 0; lane < 3; lane++) {
      Check.row(x, 1, lane, matters);
      for (int k = -1; k < 7; k++) {
        int want = k + 1 < due.length ? due[k + 1] : LeastAsked.NONE;
        Check.due("16 plan of " + matters.length + ", " + k, x.plan(1, lane, 0, matters.length, k), want);
      }
    }
  }

  private static void plans() {
    LeastAsked x = Check.of(Check.FIVE);
    planned(x, new int[] {}, 0);
    planned(x, new int[] {0}, 8, 0);
    planned(x, new int[] {0, 1, 2}, 104, 0, 2, 1);
    planned(x, new int[] {2, 2, 1, 0}, 108, 0, 1, 2, 3);
    planned(x, new int[] {1, 1, 1, 0, 2}, 126, 0, 4, 1, 3, 2);
    planned(x, new int[] {0, 1, 2, 0, 1, 2, 0}, 210, 0, 2, 1, 3, 6, 5, 4);
    planned(x, new int[] {1, 1, 1, 1, 1, 1, 1}, 4 + 14 + 54 + 4 + 18 + 14 + 54, 0, 1, 2, 3, 4, 5, 6);
    Check.row(x, 1, Check.INTS, 9, 1, 0, 9);
    Check.due("16 from i on", x.plan(1, 2, 1, 2, 0), 1);
    Check.due("16 from i on", x.plan(1, 2, 1, 2, -1), 8 + 14);
    Check.due("16 nothing is changed", x.ofPerson(0, 1), 0);
    x.feint(0);
    Check.due("16 from now on", x.plan(1, 2, 1, 2, -1), 14 + 54);
    planned(Check.of("p000;g000;h000;g079"), new int[] {0, 1, 2, 2}, 0, 0, 1, 2, 3);
    LeastAsked dear = Check.of("p023;g013;g029");
    planned(dear, new int[] {1, 0}, 18, 1, 0);
  }

  private static void refusalsOfPlans() {
    LeastAsked x = Check.of(Check.FIVE);
    Check.row(x, 1, Check.SHORTS, 0, 1, 2, 3, -1);
    Check.due("16 no sheet", x.plan(-1, 3, 0, 1, 0), LeastAsked.UNKNOWN);
    Check.due("16 no sheet", x.plan(4, 0, 0, 1, 0), LeastAsked.UNKNOWN);
    Check.due("16 lane", x.plan(2, 3, 0, 1, 0), LeastAsked.OUTSIDE);
    Check.due("16 lane", x.plan(2, -1, 0, 1, 0), LeastAsked.OUTSIDE);
    Check.due("16 n", x.plan(2, 0, 0, -1, 0), LeastAsked.OUTSIDE);
    Check.due("16 n", x.plan(2, 0, 0, 8, 0), LeastAsked.OUTSIDE);
    Check.due("16 k", x.plan(2, 0, 0, 1, -2), LeastAsked.OUTSIDE);
    Check.due("16 k", x.plan(2, 0, 0, 1, 7), LeastAsked.OUTSIDE);
    Check.due("16 fault", x.fault(), 0);
    Check.due("16 nothing", x.plan(2, 0, -1, 1, 0), Check.NULL);
    Check.due("16 fault", x.fault(), 1);
    Check.due("16 another lane", x.plan(1, 0, -1, 1, 0), Check.CAST);
    Check.due("16 fault", x.fault(), 2);
    Check.due("16 i", x.plan(1, 1, -1, 0, 0), Check.INDEX);
    Check.due("16 i", x.plan(1, 1, 6, 0, 0), Check.INDEX);
    Check.due("16 fault", x.fault(), 3);
    Check.due("16 i", x.plan(1, 1, 5, 0, -1), 0);
    Check.due("16 n", x.plan(1, 1, 0, 6, 0), Check.INDEX);
    Check.due("16 i", x.plan(1, 1, Integer.MAX_VALUE, 7, 0), Check.INDEX);
    Check.due("16 no matter", x.plan(1, 1, 0, 4, 0), LeastAsked.UNKNOWN);
    Check.due("16 fault", x.fault(), 0);
    Check.due("16 no matter", x.plan(1, 1, 4, 1, 6), LeastAsked.UNKNOWN);
    LeastAsked y = new LeastAsked();
    Check.row(y, 1, Check.SHORTS, 3);
    Check.due("16 a fault goes ahead", y.plan(1, 1, 1, 1, 0), Check.INDEX);
    Check.due("16 no province", y.plan(1, 1, 0, 1, 0), LeastAsked.STATE);
    Check.due("16 no province", y.plan(1, 1, 0, 0, 0), LeastAsked.STATE);
  }

  /** What they BRING together, then the PEOPLE. */
  private static void given(String text, int... due) {
    LeastAsked x = Check.of(text);
    for (int k = -1; k < 3; k++) Check.due("17 best of " + text + ", " + k, x.best(k), due[k + 1]);
    Check.due("17 outside", x.best(-2), LeastAsked.OUTSIDE);
    Check.due("17 outside", x.best(3), LeastAsked.OUTSIDE);
  }

  private static void best() {
    given(Check.FIVE, 104, 0, 4, 2);
    given("p111;g001;g001;g001", 3, 0, 1, 2);
    given("p111;g900;g101;g001;g971;g001;g001", 3, 1, 2, 3);
    given("p999;g004;g013;g022;g041", 27 + 18 + 9, 1, 2, 3);
    given("p999;g055;g011;g021", 45 + 9 + 9, 1, 2, 0);
    given("p191;g025;g001;g001", 47, 1, 0, 2);
    LeastAsked none = new LeastAsked();
    Check.due("17 no province", none.best(0), LeastAsked.STATE);
    Check.due("17 outside", none.best(3), LeastAsked.OUTSIDE);
  }

  private static void bestOfTwo() {
    given("p111;g001;g001", 2, 0, 1, -9);
    given("p119;g041;g001", 9 + 1, 1, -9, 0);
    given("p159;g041;g021", 9 + 5, -9, 1, 0);
    given("p000;g073;g073", 0, 0, 1, -9);
  }

  /** Nothing of PEOPLE who were there ahead of a new TEXT is left. */
  private static void fewerThanBefore() {
    LeastAsked x = Check.of("p222;g900;g909;g979;g979;g979;g979");
    Check.due("2 fewer", Check.taken(x, "p222;g000;g201"), 2);
    Check.due("12 nobody is there", x.register(2), LeastAsked.NONE);
    Check.due("13 of two", x.turn(1), 3);
    Check.due("14 nobody knows", x.steer(0), LeastAsked.NONE);
    Check.due("15 of two", x.even(), 2);
    Check.due("17 of two", x.best(-1), 1);
    Check.due("17 of two", x.best(2), LeastAsked.NONE);
  }
}
