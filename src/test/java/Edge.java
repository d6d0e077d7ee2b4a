import java.util.ArrayList;
import java.util.Arrays;
import java.util.List;
import java.util.stream.IntStream;

/** What the tests of boundary cases share: far numbers, objects made ready, and all that an object shows. */
final class Edge {
  static final int UNKNOWN = LeastAsked.UNKNOWN, OUTSIDE = LeastAsked.OUTSIDE, STATE = LeastAsked.STATE;
  static final int FULL = LeastAsked.FULL, NONE = LeastAsked.NONE;
  static final int NULL = 1, CAST = 2, INDEX = 3, SIZE = 4;
  static final int BYTES = 0, SHORTS = 1, INTS = 2;
  static final int LEAST = Integer.MIN_VALUE, MOST = Integer.MAX_VALUE;

  /** Numbers about every limit of the document, and such as a shift or a cut to a LANE would take for small ones. */
  private static final int[] FAR = {LEAST, LEAST + 1, -65536, -65535, -257, -256, -255, -128, -100, -64, -33, -32, -31,
      -13, -10, -9, -4, -3, -2, -1, 0, 1, 2, 3, 4, 5, 6, 7, 8, 9, 10, 15, 16, 20, 21, 31, 32, 33, 59, 60, 61, 64, 127,
      128, 200, 201, 255, 256, 257, 32767, 32768, 65535, 65536, 65537, 1 << 30, MOST - 1, MOST};

  private static final List<String> NAME_FAULTS = List.of("province", "year", "plan", "sheet", "put", "cell", "copy", "as");

  private Edge() {}

  /** What is done with an object ahead of the call that is looked at. */
  interface Stage {
    void ready(Asker x);

    default Stage then(Stage next) {
      return x -> {
        ready(x);
        next.ready(x);
      };
    }
  }

  static final Stage FRESH = x -> {};
  /** SHEET 0: a TEXT as bytes; 1: 41 shorts; 2: 7 ints; 3: nothing. */
  static final Stage ROWS = row(0, BYTES, Check.codes(Check.FIVE)).then(row(1, SHORTS, new int[41])).then(row(2, INTS, new int[7]));
  /** PEOPLE were ASKED 1, 1, 1, 2, 0 times. */
  static final Stage FIVE = ROWS.then(x -> {
    x.call("province", 0, BYTES, 0, Check.FIVE.length());
    x.call("question", 0);
    x.call("feint", 2);
    x.call("tell", 2);
    x.call("reading", 0, 0, 8);
    x.call("reading", 1, 1, 18);
  });
  /** As many PEOPLE as can be, and as many READINGS. */
  static final Stage SIX = ROWS.then(text("p999;g979;t000;h979;g000;t979;h000")).then(x -> {
    x.call("question", 1);
    for (int r = 0; r < 8; r++) x.call("reading", 2, r % 3, 162);
  });
  /** As few PEOPLE as can be, and no READINGS. */
  static final Stage TWO = ROWS.then(text("p012;t105;h013"));
  static final Stage[] PROVINCES = {TWO, FIVE, SIX};
  static final int[] PEOPLE = {2, 5, 6};

  static Stage row(int sheet, int lane, int... numbers) {
    return x -> {
      x.call("sheet", sheet, lane, numbers.length);
      for (int i = 0; i < numbers.length; i++) if (numbers[i] != 0) x.call("put", sheet, i, numbers[i]);
    };
  }

  /** The TEXT comes to SHEET 0 and is taken. */
  static Stage text(String text) {
    return row(0, BYTES, Check.codes(text)).then(x -> x.call("province", 0, BYTES, 0, text.length()));
  }

  /** An object of the class, ready, that has a FAULT behind it: whether a call leaves fault() alone can be seen. */
  static Caller at(Stage stage) {
    Caller x = new Caller();
    stage.ready(x);
    x.call("sheet", 0, 0, -1);
    return x;
  }

  /** Numbers that are not least .. most: the next ones on both sides, and far ones. */
  static int[] outside(int least, int most) {
    return IntStream.concat(IntStream.of(least - 1, most + 1), IntStream.of(FAR))
        .filter(v -> v < least || v > most).distinct().toArray();
  }

  static boolean namesFaults(String name) {
    return NAME_FAULTS.contains(name);
  }

  /** All that an object shows; it is spoiled by that (READINGS are taken back one by one, to see each). */
  static List<Long> picture(Asker x) {
    List<Long> shown = new ArrayList<>();
    shown.add(x.call("trace"));
    for (int what = 0; what < 4; what++) shown.add(x.call("many", what));
    for (int p = 0; p < 6; p++) for (int what = 0; what < 6; what++) shown.add(x.call("ofPerson", p, what));
    for (int m = 0; m < 3; m++) shown.add(x.call("worth", m));
    for (int k = 0; k < 4; k++) for (int lane = 0; lane < 3; lane++) showRow(shown, x, k, lane);
    do {
      for (int p = 0; p < 6; p++) for (String of : List.of("knowings", "wits", "kinds")) shown.add(x.call(of, p));
      for (int m = 0; m < 3; m++) shown.add(x.call("worths", m));
    } while (x.call("back", 1) >= 0);
    return shown;
  }

  private static void showRow(List<Long> shown, Asker x, int k, int lane) {
    for (int i = 0; i <= 60; i++) {
      long cell = x.call("cell", k, i, lane);
      shown.add(cell);
      if (cell == LeastAsked.LOST) break;
    }
    shown.add(x.call("fault"));
  }

  /** The call answers so, and but for fault(), if it names FAULTS, all is as it was. */
  private static void unchanged(String promise, Stage stage, long want, int fault, String name, int... a) {
    Caller x = at(stage);
    String told = promise + " " + name + Arrays.toString(a);
    Check.due(told, x.call(name, a), want);
    Check.due("34 fault() behind " + told, x.call("fault"), namesFaults(name) ? fault : SIZE);
    Check.due(told + " changes nothing", picture(x).equals(picture(at(stage))) ? 1 : 0, 1);
  }

  private static boolean isLong(String name) {
    return name.equals("cell") || name.equals("odds");
  }

  static void refused(String promise, Stage stage, int refusal, String name, int... a) {
    unchanged(promise, stage, isLong(name) ? LeastAsked.LOST : refusal, 0, name, a);
  }

  static void fails(String promise, Stage stage, int fault, String name, int... a) {
    unchanged(promise, stage, isLong(name) ? LeastAsked.LOST : -10 - fault, fault, name, a);
  }

  /** A call that only looks. */
  static void looks(String promise, Stage stage, long want, String name, int... a) {
    unchanged(promise, stage, want, 0, name, a);
  }

  /** By weigh, teach, sharpen: it becomes v, and then again what it was; nothing else is changed by both. */
  static void becomes(String promise, Stage stage, String name, int whose, int was, int v) {
    Caller x = at(stage);
    String told = promise + " " + name + " " + whose + " to " + v;
    Check.due(told, x.call(name, whose, v), was);
    Check.due(told + " and back", x.call(name, whose, was), v);
    Check.due("34 fault() behind " + told, x.call("fault"), SIZE);
    Check.due(told + " and nothing else", picture(x).equals(picture(at(stage))) ? 1 : 0, 1);
  }
}
