/** What the tests share: counting answers that are not as due, and writing rows into SHEETS. */
final class Check {
  static final int BYTES = 0, SHORTS = 1, INTS = 2;
  static final int NULL = -11, CAST = -12, INDEX = -13, SIZE = -14;
  /** The province of most tests: one of each kind and more, some as often ASKED, some alike in what they KNOW. */
  static final String FIVE = "p293;g014;t121;h047;g273;t065";

  private static int wrong = 0;
  private static int asked = 0;

  private Check() {}

  static void due(String call, long got, long want) {
    asked++;
    if (got != want) {
      wrong++;
      System.out.println(call + " answered " + got + ", due is " + want);
    }
  }

  static void end() {
    System.out.println(asked + " answers, " + wrong + " not as due");
    if (wrong != 0 || asked == 0) System.exit(1);
  }

  /** A SHEET gets a row of a LANE with just these numbers. */
  static void row(LeastAsked x, int sheet, int lane, int... numbers) {
    due("sheet", x.sheet(sheet, lane, numbers.length), 1);
    for (int i = 0; i < numbers.length; i++) due("put", x.put(sheet, i, numbers[i]), 1);
  }

  static int[] codes(String text) {
    return text.chars().toArray();
  }

  /** What province() answers for a text that is the whole of SHEET 0. */
  static int taken(LeastAsked x, String text) {
    row(x, 0, BYTES, codes(text));
    return x.province(0, BYTES, 0, text.length());
  }

  static LeastAsked of(String text) {
    LeastAsked x = new LeastAsked();
    due("province of " + text, taken(x, text), (text.length() - 4) / 5);
    return x;
  }
}
