/** Promises 18 to 24. */
public final class ReadingsTest {
  public static void main(String[] args) {
    readings();
    backs();
    knowings();
    wits();
    kinds();
    worths();
    allReadingsCount();
    odds();
    Check.end();
  }

  private static void readings() {
    LeastAsked x = Check.of(Check.FIVE);
    for (int r = 0; r < 8; r++) {
      Check.due("18 number", x.reading(r % 5, r % 3, 25 * r), r);
      Check.due("18 many", x.many(3), r + 1);
    }
    Check.due("18 full", x.reading(0, 0, 200), LeastAsked.FULL);
    Check.due("18 outside", x.reading(0, 0, 201), LeastAsked.OUTSIDE);
    Check.due("18 outside", x.reading(0, 0, -1), LeastAsked.OUTSIDE);
    Check.due("18 no such person", x.reading(5, 0, 201), LeastAsked.UNKNOWN);
    Check.due("18 no such person", x.reading(-1, 0, 0), LeastAsked.UNKNOWN);
    Check.due("18 no such matter", x.reading(0, 3, 201), LeastAsked.UNKNOWN);
    Check.due("18 no such matter", x.reading(0, -1, 0), LeastAsked.UNKNOWN);
    Check.due("18 many", x.many(3), 8);
    x.back(1);
    Check.due("18 the greatest", x.reading(0, 0, 200), 7);
  }

  private static void backs() {
    LeastAsked x = Check.of(Check.FIVE);
    Check.due("19 none", x.back(0), 0);
    Check.due("19 too many", x.back(1), LeastAsked.OUTSIDE);
    x.reading(0, 0, 8);
    x.reading(0, 1, 5);
    x.reading(0, 1, 6);
    Check.due("19 too many", x.back(4), LeastAsked.OUTSIDE);
    Check.due("19 below 0", x.back(-1), LeastAsked.OUTSIDE);
    Check.due("19 many", x.many(3), 3);
    Check.due("19 none", x.back(0), 3);
    Check.due("19 not so", x.wits(0), 0);
    Check.due("19 the last two", x.back(2), 1);
    Check.due("19 so again", x.wits(0), 1 << 4);
    Check.due("19 numbered on", x.reading(0, 1, 4), 1);
    Check.due("19 all", x.back(2), 0);
    LeastAsked none = new LeastAsked();
    Check.due("19 no province", none.back(0), 0);
    Check.due("19 no province", none.back(1), LeastAsked.OUTSIDE);
  }

  private static void knowings() {
    LeastAsked x = Check.of(Check.FIVE);
    Check.due("20 all", x.knowings(0), 255);
    x.reading(0, 0, 8);
    Check.due("20 knows 0", x.knowings(0), 0b10101010);
    x.reading(0, 1, 4);
    Check.due("20 and not 1", x.knowings(0), 0b00100010);
    x.reading(0, 2, 4);
    Check.due("20 and not 2", x.knowings(0), 0b00000010);
    Check.due("20 of another", x.knowings(1), 255);
    Check.due("20 what he knows is not asked", x.teach(0, 7), 1);
    Check.due("20 by the readings", x.knowings(0), 0b00000010);
    Check.due("20 of another, as it is not so", x.knowings(1), 0);
    Check.due("20 nothing is changed", x.ofPerson(0, 2), 7);
    Check.due("20 no such", x.knowings(5), LeastAsked.UNKNOWN);
    Check.due("20 no such", x.knowings(-1), LeastAsked.UNKNOWN);
    LeastAsked y = Check.of("p110;g012;g000");
    y.reading(0, 0, 2);
    y.reading(0, 1, 2);
    Check.due("20 worth 1: known or not", y.knowings(0), 255);
  }

  private static void wits() {
    LeastAsked x = Check.of("p203;g014;t033;h009");
    Check.due("21 all", x.wits(1), 1023);
    x.reading(0, 0, 8);
    Check.due("21 gooseherd", x.wits(0), 1 << 4);
    x.back(1);
    x.reading(1, 1, 0);
    Check.due("21 worth nothing", x.wits(1), 1023);
    x.reading(1, 0, 8);
    Check.due("21 twin", x.wits(1), 1 << 3);
    x.back(2);
    x.reading(2, 2, 18);
    Check.due("21 hermit", x.wits(2), 1 << 9);
    x.back(1);
    x.reading(2, 2, 7);
    Check.due("21 none", x.wits(2), 0);
    Check.due("21 nothing is changed", x.ofPerson(2, 3), 9);
    Check.due("21 no such", x.wits(3), LeastAsked.UNKNOWN);
    Check.due("21 no such", x.wits(-1), LeastAsked.UNKNOWN);
  }

  private static void kinds() {
    LeastAsked x = Check.of("p023;g001;t001;h000;g044");
    Check.due("22 all", x.kinds(3), 7);
    x.reading(0, 0, 1);
    Check.due("22 gooseherd", x.kinds(0), 1);
    x.back(1);
    x.reading(0, 0, 2);
    Check.due("22 twin, hermit", x.kinds(0), 6);
    x.back(1);
    x.reading(2, 0, 0);
    Check.due("22 gooseherd, hermit", x.kinds(2), 5);
    x.back(1);
    x.reading(3, 2, 15);
    Check.due("22 twin", x.kinds(3), 2);
    x.back(1);
    x.reading(3, 2, 13);
    Check.due("22 none", x.kinds(3), 0);
    Check.due("22 nothing is changed", x.ofPerson(3, 0), 0);
    Check.due("22 no such", x.kinds(4), LeastAsked.UNKNOWN);
    Check.due("22 no such", x.kinds(-1), LeastAsked.UNKNOWN);
  }

  private static void worths() {
    LeastAsked x = Check.of(Check.FIVE);
    for (int m = 0; m < 3; m++) Check.due("23 all", x.worths(m), 1023);
    x.reading(4, 1, 54);
    Check.due("23 by one who knows", x.worths(1), 1 << 9);
    Check.due("23 of another", x.worths(0), 1023);
    x.reading(0, 1, 4);
    Check.due("23 and by one who does not", x.worths(1), 1 << 9);
    x.reading(3, 1, 3);
    Check.due("23 none", x.worths(1), 0);
    Check.due("23 of another, as it is not so", x.worths(0), 0);
    Check.due("23 nothing is changed", x.worth(1), 9);
    x.back(1);
    x.weigh(1, 0);
    Check.due("23 what it is worth is not asked", x.worths(1), 1 << 9);
    x.sharpen(4, 0);
    x.back(2);
    x.reading(4, 1, 0);
    Check.due("23 worth nothing", x.worths(1), 1);
    Check.due("23 no such", x.worths(3), LeastAsked.UNKNOWN);
    Check.due("23 no such", x.worths(-1), LeastAsked.UNKNOWN);
  }

  private static void allReadingsCount() {
    LeastAsked x = Check.of("p222;g011;g011");
    x.reading(0, 0, 2);
    x.reading(1, 0, 4);
    Check.due("20 another's is not so", x.knowings(0), 0);
    Check.due("21 another's is not so", x.wits(0), 0);
    Check.due("22 another's is not so", x.kinds(0), 0);
    Check.due("21 his own", x.wits(1), 1 << 2);
    Check.due("22 his own", x.kinds(1), 0b110);
    Check.due("23 both", x.worths(0), 0);
  }

  private static void odd(LeastAsked x, int p, int v, int upper, int lower) {
    Check.due("24 odds of " + p + ", " + v, x.odds(p, v, 0), upper);
    Check.due("24 odds of " + p + ", " + v, x.odds(p, v, 1), lower);
  }

  private static void odds() {
    LeastAsked x = Check.of(Check.FIVE);
    odd(x, 0, 0, 1, 1);
    odd(x, 0, 4, 1, 1);
    odd(x, 0, 5, 1, 2);
    odd(x, 0, 8, 1, 2);
    odd(x, 0, 9, 1, 3);
    odd(x, 0, 12, 1, 3);
    odd(x, 0, 13, 1, 6);
    odd(x, 0, 36, 1, 6);
    odd(x, 0, 37, 0, 1);
    odd(x, 0, 200, 0, 1);
    odd(x, 1, 2, 1, 1);
    odd(x, 2, 15, 1, 2);
    odd(x, 2, 127, 0, 1);
    x.weigh(0, 0);
    odd(x, 0, 1, 5, 6);
    x.weigh(1, 0);
    odd(x, 0, 1, 2, 3);
    odd(x, 0, 5, 1, 6);
    Check.due("24 nothing is changed", x.ofPerson(0, 2), 1);
    Check.due("24 v", x.odds(0, -1, 0), LeastAsked.LOST);
    Check.due("24 v", x.odds(0, 201, 0), LeastAsked.LOST);
    Check.due("24 which", x.odds(0, 0, -1), LeastAsked.LOST);
    Check.due("24 which", x.odds(0, 0, 2), LeastAsked.LOST);
    Check.due("24 no such", x.odds(5, 0, 0), LeastAsked.LOST);
    Check.due("24 no such", x.odds(-1, 0, 0), LeastAsked.LOST);
  }
}
