/** An object of the class whose calls are told by name; it is called at most as often as is promised. */
final class Caller implements Asker {
  static final int MOST_CALLS = 512;
  /** Each call's name, and how many numbers it takes. */
  private static final String CALLS = "province4 ofPerson2 worth1 weigh2 teach2 sharpen2 brings2 question1 feint1 year5 "
      + "register1 turn1 steer1 even0 plan5 best1 reading3 back1 knowings1 wits1 kinds1 worths1 odds3 sheet3 lose1 put3 "
      + "cell3 copy5 tell1 greet1 as2 trace0 fault0 many1";
  static final String[] NAMES = CALLS.replaceAll("[0-9]", "").split(" ");

  private final LeastAsked x = new LeastAsked();
  private int calls = 0;

  static int numbersOf(String name) {
    for (String call : CALLS.split(" ")) {
      if (call.length() == name.length() + 1 && call.startsWith(name)) return call.charAt(name.length()) - '0';
    }
    throw new IllegalArgumentException(name);
  }

  int callsLeft() {
    return MOST_CALLS - calls;
  }

  @Override
  public long call(String name, int... a) {
    if (++calls > MOST_CALLS) throw new IllegalStateException("this test calls an object more than 512 times");
    switch (name) {
      case "province": return x.province(a[0], a[1], a[2], a[3]);
      case "ofPerson": return x.ofPerson(a[0], a[1]);
      case "worth": return x.worth(a[0]);
      case "weigh": return x.weigh(a[0], a[1]);
      case "teach": return x.teach(a[0], a[1]);
      case "sharpen": return x.sharpen(a[0], a[1]);
      case "brings": return x.brings(a[0], a[1]);
      case "question": return x.question(a[0]);
      case "feint": return x.feint(a[0]);
      case "year": return x.year(a[0], a[1], a[2], a[3], a[4]);
      case "register": return x.register(a[0]);
      case "turn": return x.turn(a[0]);
      case "steer": return x.steer(a[0]);
      case "even": return x.even();
      case "plan": return x.plan(a[0], a[1], a[2], a[3], a[4]);
      case "best": return x.best(a[0]);
      case "reading": return x.reading(a[0], a[1], a[2]);
      case "back": return x.back(a[0]);
      case "knowings": return x.knowings(a[0]);
      case "wits": return x.wits(a[0]);
      case "kinds": return x.kinds(a[0]);
      case "worths": return x.worths(a[0]);
      case "odds": return x.odds(a[0], a[1], a[2]);
      case "sheet": return x.sheet(a[0], a[1], a[2]);
      case "lose": return x.lose(a[0]);
      case "put": return x.put(a[0], a[1], a[2]);
      case "cell": return x.cell(a[0], a[1], a[2]);
      case "copy": return x.copy(a[0], a[1], a[2], a[3], a[4]);
      case "tell": return x.tell(a[0]);
      case "greet": return x.greet(a[0]);
      case "as": return x.as(a[0], a[1]);
      case "trace": return x.trace();
      case "fault": return x.fault();
      case "many": return x.many(a[0]);
      default: throw new IllegalArgumentException(name);
    }
  }
}
