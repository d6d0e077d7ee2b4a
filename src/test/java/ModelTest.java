import java.util.Arrays;
import java.util.Random;

/** Runs of many calls, wild arguments among them, on the class and on the Model: the answers must be alike. */
public final class ModelTest {
  private static final int RUNS = 2000;
  private static final int[] WILD = {-1, -2, 3, 4, 5, 6, 7, 8, 10, 16, 60, 61, 201, Integer.MAX_VALUE, Integer.MIN_VALUE};

  private final Random random;
  private final Caller real = new Caller();
  private final Model model = new Model();

  private ModelTest(long seed) {
    this.random = new Random(seed);
  }

  public static void main(String[] args) {
    for (int run = 0; run < RUNS; run++) new ModelTest(run).run(run);
    Check.end();
  }

  private void run(int run) {
    boolean calm = run % 4 != 0;
    while (real.callsLeft() > 1) {
      int what = random.nextInt(100);
      if (model.people.isEmpty() && what < 30 || what < 2) {
        writeText(run);
      } else if (what < 4) {
        writeYear(run);
      } else if (what < 6) {
        writePlan(run);
      } else {
        String name = Caller.NAMES[random.nextInt(Caller.NAMES.length)];
        if (name.equals("lose") && calm && random.nextInt(4) != 0) continue;
        compare(run, name, arguments(name, Caller.numbersOf(name)));
      }
    }
  }

  private int[] arguments(String name, int count) {
    int[] a = new int[count];
    for (int k = 0; k < count; k++) {
      a[k] = random.nextInt(12) == 0 ? WILD[random.nextInt(WILD.length)] : random.nextInt(limit(name, k));
    }
    if (name.equals("reading") && random.nextInt(3) != 0 && model.call("brings", a[0], a[1]) >= 0) a[2] = (int) model.call("brings", a[0], a[1]);
    if (name.equals("year") && a[4] > 4) a[4] += 5;
    return a;
  }

  private static int limit(String name, int k) {
    switch (name) {
      case "province": case "year": case "plan": return k == 0 ? 4 : k == 1 ? 3 : k == 2 ? 6 : k == 3 ? 8 : 11;
      case "ofPerson": return 6;
      case "weigh": return k == 0 ? 3 : 10;
      case "brings": return k == 0 ? 6 : 3;
      case "sharpen": return k == 0 ? 6 : 10;
      case "teach": return k == 0 ? 6 : 8;
      case "reading": return k == 0 ? 6 : k == 1 ? 3 : 201;
      case "odds": return k == 0 ? 6 : k == 1 ? 201 : 2;
      case "sheet": return k == 0 ? 4 : k == 1 ? 3 : 61;
      case "cell": return k == 1 ? 20 : 3;
      case "put": return k == 0 ? 4 : k == 1 ? 20 : 120;
      case "copy": return k == 0 || k == 2 ? 4 : 12;
      default: return 6;
    }
  }

  private void writeRow(int run, int sheet, int lane, int[] row) {
    compare(run, "sheet", sheet, lane, row.length);
    for (int i = 0; i < row.length; i++) compare(run, "put", sheet, i, row[i]);
  }

  private void writeText(int run) {
    StringBuilder text = new StringBuilder("p");
    for (int m = 0; m < 3; m++) text.append(random.nextInt(10));
    int people = 2 + random.nextInt(5);
    for (int p = 0; p < people; p++) {
      text.append(';').append("gth".charAt(random.nextInt(3))).append(random.nextInt(random.nextBoolean() ? 3 : 10));
      text.append(random.nextInt(8)).append(random.nextInt(10));
    }
    int[] row = text.chars().toArray();
    if (random.nextInt(4) == 0) row[random.nextInt(row.length)] = 'g';
    if (random.nextInt(6) == 0) row = Arrays.copyOf(row, row.length + 1);
    if (random.nextInt(6) == 0) row = Arrays.copyOf(row, random.nextInt(row.length));
    int lane = random.nextInt(3);
    writeRow(run, 0, lane, row);
    compare(run, "province", 0, lane, 0, row.length);
  }

  private void writeYear(int run) {
    int n = random.nextInt(21);
    int[] row = new int[2 * n];
    for (int k = 0; k < n; k++) {
      int deed = random.nextInt(8) == 0 ? 10 + random.nextInt(6) : random.nextInt(10) == 0 ? 1 : 0;
      row[2 * k] = deed == 0 ? random.nextInt(3) : random.nextInt(deed == 1 ? 3 : 8);
      row[2 * k + 1] = deed;
    }
    if (n > 0 && random.nextInt(3) == 0) row[random.nextInt(2 * n)] = WILD[random.nextInt(WILD.length)];
    if (n > 0 && random.nextBoolean() && !model.people.isEmpty()) {
      row[0] = (int) model.call("register", 0);
      row[1] = 1;
    }
    int lane = random.nextInt(3);
    writeRow(run, 1, lane, row);
    for (int what = 0; what < 16; what++) compare(run, "year", 1, lane, 0, n, what);
  }

  private void writePlan(int run) {
    int n = random.nextInt(random.nextInt(10) == 0 ? 8 : 6);
    int[] row = new int[n];
    for (int k = 0; k < n; k++) row[k] = random.nextInt(random.nextInt(12) == 0 ? 4 : 3);
    int lane = random.nextInt(3);
    writeRow(run, 2, lane, row);
    for (int k = -1; k < 7; k++) compare(run, "plan", 2, lane, 0, n, k);
  }

  private void compare(int run, String name, int... a) {
    if (real.callsLeft() < 2) return;
    Check.due("run " + run + ": " + name + Arrays.toString(a), real.call(name, a), model.call(name, a));
    Check.due("run " + run + ": fault() after " + name + Arrays.toString(a), real.call("fault"), model.call("fault"));
  }
}
