import java.util.Arrays;

/**
 * Every call with every choice of numbers about its limits, so that each reason for a refusal or a FAULT meets each
 * other: answers, fault() and all that is shown behind it must be as the Model's.
 */
public final class SweepTest {
  private static final Edge.Stage[] STAGES = {Edge.FRESH, Edge.ROWS, Edge.TWO, Edge.FIVE, Edge.SIX};
  private static final int CALLS_OF_A_PICTURE = 400;

  private static final int[] SHEETS = {Edge.LEAST, -1, 0, 1, 2, 3, 4, Edge.MOST};
  private static final int[] FEW_SHEETS = {-1, 0, 1, 2, 3, 4};
  private static final int[] LANES = {-1, 0, 1, 2, 3};
  private static final int[] PLACES = {Edge.LEAST, -1, 0, 1, 2, 6, 7, 8, 28, 29, 30, 40, 41, 42, 60, Edge.MOST};
  private static final int[] FEW_PLACES = {Edge.LEAST, -1, 0, 1, 6, 7, 8, 29, 30, Edge.MOST};
  private static final int[] LENGTHS = {Edge.LEAST, -1, 0, 1, 14, 19, 28, 29, 30, 34, 60, 61, Edge.MOST};
  private static final int[] YEARS = {Edge.LEAST, -1, 0, 1, 3, 4, 14, 20, 21, Edge.MOST};
  private static final int[] YEAR_WHATS = {-1, 0, 1, 2, 3, 4, 5, 9, 10, 11, 15, 16, Edge.MOST};
  private static final int[] PLANS = {-1, 0, 1, 2, 6, 7, 8, Edge.MOST};
  private static final int[] PLAN_PLACES = {Edge.LEAST, -2, -1, 0, 5, 6, 7};
  private static final int[] PEOPLE = {Edge.LEAST, -1, 0, 1, 2, 3, 4, 5, 6, 32, Edge.MOST};
  private static final int[] MATTERS = {Edge.LEAST, -1, 0, 1, 2, 3, 32, Edge.MOST};
  private static final int[] VALUES = {Edge.LEAST, -1, 0, 1, 2, 5, 6, 7, 8, 9, 10, 162, 200, 201, Edge.MOST};
  private static final int[] CELLS = {Edge.LEAST, -32769, -129, -1, 0, 1, 127, 128, 256, 32768, Edge.MOST};

  private static Caller real;
  private static Model model;

  public static void main(String[] args) {
    for (Edge.Stage stage : STAGES) {
      for (String name : Caller.NAMES) {
        begin(stage);
        sweep(stage, name, new int[Caller.numbersOf(name)], 0);
      }
    }
    Check.end();
  }

  private static int[] numbers(String name, int k) {
    switch (name) {
      case "province": return new int[][] {SHEETS, LANES, PLACES, LENGTHS}[k];
      case "year": return new int[][] {FEW_SHEETS, LANES, PLACES, YEARS, YEAR_WHATS}[k];
      case "plan": return new int[][] {FEW_SHEETS, LANES, FEW_PLACES, PLANS, PLAN_PLACES}[k];
      case "sheet": return new int[][] {SHEETS, LANES, LENGTHS}[k];
      case "lose": return SHEETS;
      case "put": return new int[][] {SHEETS, PLACES, CELLS}[k];
      case "cell": return new int[][] {SHEETS, PLACES, LANES}[k];
      case "copy": return new int[][] {FEW_SHEETS, FEW_PLACES, FEW_SHEETS, FEW_PLACES, FEW_PLACES}[k];
      case "worth": case "question": case "steer": case "worths": return MATTERS;
      case "weigh": return k == 0 ? MATTERS : VALUES;
      case "brings": return k == 0 ? PEOPLE : MATTERS;
      case "reading": return new int[][] {PEOPLE, MATTERS, VALUES}[k];
      default: return k == 0 && !name.equals("many") ? PEOPLE : VALUES;
    }
  }

  private static void begin(Edge.Stage stage) {
    real = Edge.at(stage);
    model = new Model();
    stage.ready(model);
    model.call("sheet", 0, 0, -1);
  }

  private static void sweep(Edge.Stage stage, String name, int[] a, int at) {
    if (at == a.length) {
      compare(stage, name, a);
      return;
    }
    for (int v : numbers(name, at)) {
      a[at] = v;
      sweep(stage, name, a, at + 1);
    }
  }

  private static void compare(Edge.Stage stage, String name, int[] a) {
    String told = name + Arrays.toString(a);
    long answer = model.call(name, a);
    Check.due(told, real.call(name, a), answer);
    Check.due("fault() behind " + told, real.call("fault"), model.call("fault"));
    boolean taken = changes(name) && answer >= 0;
    if (taken || real.callsLeft() < CALLS_OF_A_PICTURE) {
      Check.due("all that is shown behind " + told, Edge.picture(real).equals(Edge.picture(model)) ? 1 : 0, 1);
      begin(stage);
    }
  }

  private static boolean changes(String name) {
    return Arrays.asList("province", "weigh", "teach", "sharpen", "question", "feint", "reading", "back", "sheet", "lose",
        "put", "copy", "tell", "greet").contains(name);
  }
}
