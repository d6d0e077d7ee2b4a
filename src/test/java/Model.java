import java.util.ArrayList;
import java.util.List;

/**
 * The document once more, as plainly as can be and by other ways than the class (turns are played out, plans are
 * tried one by one), for ModelTest and SweepTest to compare with.
 */
final class Model implements Asker {
  static final class Refused extends Exception {
    private static final long serialVersionUID = 1;
    final int answer;
    final int fault;

    Refused(int answer, int fault) {
      this.answer = answer;
      this.fault = fault;
    }
  }

  /** kind, asked, knows, wit. */
  List<int[]> people = new ArrayList<>();
  int[] worth = null;
  int questions = 0;
  int brought = 0;
  List<int[]> readings = new ArrayList<>();
  /** byte[], short[], int[] or null. */
  Object[] sheets = new Object[4];
  int trace = 0;
  int fault = 0;

  static void refuse(boolean when, int answer) throws Refused {
    if (when) throw new Refused(answer, 0);
  }

  static void fault(boolean when, int which) throws Refused {
    if (when) throw new Refused(-10 - which, which);
  }

  @Override
  public long call(String name, int... a) {
    boolean names = Edge.namesFaults(name);
    boolean isLong = name.equals("cell") || name.equals("odds");
    try {
      long answer = answer(name, a);
      if (names) fault = 0;
      return answer;
    } catch (Refused r) {
      if (names) fault = r.fault;
      return isLong ? Long.MIN_VALUE : r.answer;
    }
  }

  private long answer(String name, int[] a) throws Refused {
    switch (name) {
      case "province": return province(a[0], a[1], a[2], a[3]);
      case "ofPerson": return ofPerson(person(a[0]), a[0], a[1]);
      case "worth": return worth[matter(a[0])];
      case "weigh": { int m = matter(a[0]); int was = worth[m]; worth[m] = within(a[1], 0, 9); return was; }
      case "teach": return change(person(a[0]), 2, within(a[1], 0, 7, person(a[0])));
      case "sharpen": return change(person(a[0]), 3, within(a[1], 0, 9, person(a[0])));
      case "brings": return brings(person(a[0]), matter(a[1]));
      case "question": return question(matter(a[0]));
      case "feint": return feint(person(a[0]), a[0]);
      case "year": return year(a[0], a[1], a[2], a[3], a[4]);
      case "register": { within(a[0], 0, 5); state(); return a[0] < people.size() ? sorted().get(a[0]) : -9; }
      case "turn": return turn(person(a[0]), a[0]);
      case "steer": return steer(matter(a[0]));
      case "even": state(); return even();
      case "plan": return plan(a[0], a[1], a[2], a[3], a[4]);
      case "best": return best(a[0]);
      case "reading": return reading(person(a[0]), a[0], matter(a[1]), a[2]);
      case "back": { int n = within(a[0], 0, readings.size()); for (int k = 0; k < n; k++) readings.remove(readings.size() - 1); return readings.size(); }
      case "knowings": return possible(person(a[0]), 2, 8);
      case "wits": return possible(person(a[0]), 3, 10);
      case "kinds": return possible(person(a[0]), 0, 3);
      case "worths": matter(a[0]); return possible(worth, a[0], 10);
      case "odds": return odds(person(a[0]), a[1], a[2]);
      case "sheet": return sheet(a[0], a[1], a[2]);
      case "lose": { known(a[0]); int had = sheets[a[0]] == null ? 0 : 1; sheets[a[0]] = null; return had; }
      case "put": return put(a[0], a[1], a[2]);
      case "cell": return cell(a[0], a[1], a[2]);
      case "copy": return copy(a[0], a[1], a[2], a[3], a[4]);
      case "tell": return tell(person(a[0]), person(a[0])[0]);
      case "greet": { int[] p = person(a[0]); leave(p[0] == 2 ? 5 : 4); return p[0] == 2 ? 40 : p[1]; }
      case "as": { int[] p = person(a[0]); within(a[1], 0, 2); fault(p[0] < a[1], 2); return 1; }
      case "trace": return trace;
      case "fault": return fault;
      case "many": return new int[] {people.size(), questions, brought, readings.size()}[within(a[0], 0, 3)];
      default: throw new IllegalArgumentException(name);
    }
  }

  private static int within(int v, int least, int most, Object... lookedAt) throws Refused {
    refuse(v < least || v > most, -2);
    return v;
  }

  private int[] person(int p) throws Refused {
    refuse(p < 0 || p >= people.size(), -1);
    return people.get(p);
  }

  private int matter(int m) throws Refused {
    refuse(worth == null || m < 0 || m > 2, -1);
    return m;
  }

  private void state() throws Refused {
    refuse(people.isEmpty(), -3);
  }

  private void known(int k) throws Refused {
    refuse(k < 0 || k > 3, -1);
  }

  private static int laneOf(Object row) {
    return row instanceof byte[] ? 0 : row instanceof short[] ? 1 : 2;
  }

  private static int lengthOf(Object row) {
    return java.lang.reflect.Array.getLength(row);
  }

  private static int at(Object row, int i) {
    return java.lang.reflect.Array.getInt(row, i);
  }

  private static void set(Object row, int i, int v) {
    if (row instanceof byte[] b) b[i] = (byte) v;
    if (row instanceof short[] s) s[i] = (short) v;
    if (row instanceof int[] n) n[i] = v;
  }

  private int[] cells(int sheet, int lane, int i, int n) throws Refused {
    Object row = sheets[sheet];
    fault(row != null && laneOf(row) != lane, 2);
    fault(row == null, 1);
    fault(n < 0, 4);
    fault(i < 0 || i > lengthOf(row) || (long) i + n > lengthOf(row), 3);
    int[] cells = new int[n];
    for (int k = 0; k < n; k++) cells[k] = at(row, i + k);
    return cells;
  }

  private long province(int sheet, int lane, int i, int n) throws Refused {
    known(sheet);
    within(lane, 0, 2);
    int[] cells = cells(sheet, lane, i, n);
    StringBuilder text = new StringBuilder();
    for (int c : cells) text.append(c >= 0 && c < 128 ? (char) c : '?');
    for (int upTo = 0; upTo < n; upTo++) {
      if (!goesOn(text.substring(0, upTo + 1))) return -100 - upTo;
    }
    if (!text.toString().matches(TEXT)) return -100 - n;
    people = new ArrayList<>();
    worth = new int[] {text.charAt(1) - '0', text.charAt(2) - '0', text.charAt(3) - '0'};
    String[] parts = text.toString().split(";");
    for (int p = 1; p < parts.length; p++) {
      people.add(new int[] {"gth".indexOf(parts[p].charAt(0)), parts[p].charAt(1) - '0', parts[p].charAt(2) - '0', parts[p].charAt(3) - '0'});
    }
    questions = 0;
    brought = 0;
    readings.clear();
    return people.size();
  }

  private static final String TEXT = "p[0-9]{3}(;[gth][0-9][0-7][0-9]){2,6}";

  private static boolean goesOn(String begun) {
    String whole = "p000;g000;g000;g000;g000;g000;g000";
    if (begun.length() > whole.length()) return false;
    return (begun + whole.substring(begun.length())).matches(TEXT);
  }

  private int says(int[] p) {
    return p[0] == 0 ? p[3] : p[0] == 1 ? p[3] + 1 : p[3] * 2;
  }

  private int brings(int[] p, int m) {
    boolean knows = (p[2] & 1 << m) != 0;
    return knows ? says(p) * worth[m] : says(p);
  }

  private List<Integer> sorted() {
    List<Integer> all = new ArrayList<>();
    for (int p = 0; p < people.size(); p++) all.add(p);
    all.sort((p, q) -> people.get(p)[1] - people.get(q)[1]);
    return all;
  }

  private int first() {
    return sorted().get(0);
  }

  private long ofPerson(int[] p, int number, int what) throws Refused {
    within(what, 0, 5);
    return what < 4 ? p[what] : what == 4 ? says(p) : sorted().indexOf(number);
  }

  private long change(int[] p, int what, int v) {
    int was = p[what];
    p[what] = v;
    return was;
  }

  private long question(int m) {
    int p = first();
    people.get(p)[1]++;
    questions++;
    brought += brings(people.get(p), m);
    return p;
  }

  private long feint(int[] p, int number) throws Refused {
    refuse(first() != number, -3);
    return ++p[1];
  }

  private Model thought() {
    Model other = new Model();
    for (int[] p : people) other.people.add(p.clone());
    other.worth = worth.clone();
    return other;
  }

  private long year(int sheet, int lane, int i, int n, int what) throws Refused {
    known(sheet);
    within(lane, 0, 2);
    within(n, 0, 20);
    refuse(!(what >= 0 && what <= 4 || what >= 10 && what <= 15), -2);
    int[] cells = cells(sheet, lane, i, 2 * n);
    state();
    for (int k = 0; k < n; k++) {
      int whom = cells[2 * k];
      int deed = cells[2 * k + 1];
      refuse(deed != 0 && deed != 1 && (deed < 10 || deed > 15), -2);
      refuse(deed >= 10 && (whom < 0 || whom > 7), -2);
      refuse(deed == 0 && (whom < 0 || whom > 2), -1);
      refuse(deed == 1 && (whom < 0 || whom >= people.size()), -1);
    }
    Model then = thought();
    int set = 0;
    int knowing = 0;
    for (int k = 0; k < n; k++) {
      int whom = cells[2 * k];
      int deed = cells[2 * k + 1];
      boolean wrong = deed == 1 && then.first() != whom || deed >= 10 && deed - 10 >= people.size();
      if (wrong) return what == 1 ? k : -100 - k;
      if (deed == 1) then.people.get(whom)[1]++;
      if (deed >= 10) then.people.get(deed - 10)[2] = whom;
      if (deed == 0) {
        int p = (int) then.question(whom);
        set |= 1 << p;
        if ((then.people.get(p)[2] >> whom) % 2 == 1) knowing++;
      }
    }
    if (what >= 10) return what - 10 < people.size() ? then.people.get(what - 10)[1] : -9;
    return new int[] {then.brought, -9, set, knowing, then.first()}[what];
  }

  private long turn(int[] looked, int number) {
    Model then = thought();
    int ahead = 0;
    while (then.question(0) != number) ahead++;
    return ahead;
  }

  private long steer(int m) {
    Model then = thought();
    for (int feints = 0; feints < 200; feints++) {
      int p = then.first();
      if ((then.people.get(p)[2] >> m & 1) == 1) return feints;
      then.people.get(p)[1]++;
    }
    return -9;
  }

  private long even() {
    Model then = thought();
    int behind = 0;
    while (then.people.stream().mapToInt(p -> p[1]).distinct().count() > 1) {
      then.question(0);
      behind++;
    }
    return behind;
  }

  private int[] planRow;
  private int planMost;

  private long plan(int sheet, int lane, int i, int n, int k) throws Refused {
    known(sheet);
    within(lane, 0, 2);
    within(n, 0, 7);
    within(k, -1, 6);
    int[] cells = cells(sheet, lane, i, n);
    state();
    for (int c : cells) matter(c);
    planMost = -1;
    tryRows(cells, new int[n], 0);
    return k == -1 ? planMost : k < n ? planRow[k] : -9;
  }

  private void tryRows(int[] matters, int[] row, int at) {
    if (at == row.length) {
      Model then = thought();
      for (int place : row) then.question(matters[place]);
      if (then.brought > planMost) {
        planMost = then.brought;
        planRow = row.clone();
      }
      return;
    }
    for (int place = 0; place < row.length; place++) {
      boolean used = false;
      for (int b = 0; b < at; b++) used |= row[b] == place;
      if (used) continue;
      row[at] = place;
      tryRows(matters, row, at + 1);
    }
  }

  private long best(int k) throws Refused {
    within(k, -1, 2);
    state();
    int most = -1;
    int[] row = null;
    for (int code = 0; code < 1000; code++) {
      int[] who = {code / 100, code / 10 % 10, code % 10};
      int given = 0;
      int sum = 0;
      boolean bad = false;
      for (int m = 0; m < 3; m++) {
        if (who[m] == 9) continue;
        given++;
        bad |= who[m] >= people.size();
        for (int b = 0; b < m; b++) bad |= who[b] == who[m];
        if (!bad) sum += brings(people.get(who[m]), m);
      }
      if (!bad && given == Math.min(3, people.size()) && sum > most) {
        most = sum;
        row = who;
      }
    }
    return k == -1 ? most : row[k] == 9 ? -9 : row[k];
  }

  private long reading(int[] p, int number, int m, int v) throws Refused {
    within(v, 0, 200);
    refuse(readings.size() == 8, -4);
    readings.add(new int[] {number, m, v});
    return readings.size() - 1;
  }

  private long possible(int[] of, int what, int values) {
    int was = of[what];
    int set = 0;
    for (int v = 0; v < values; v++) {
      of[what] = v;
      if (readings.stream().allMatch(r -> brings(people.get(r[0]), r[1]) == r[2])) set += 1 << v;
    }
    of[what] = was;
    return set;
  }

  private long odds(int[] p, int v, int which) throws Refused {
    within(v, 0, 200);
    within(which, 0, 1);
    int good = 0;
    for (int way = 0; way < 24; way++) {
      if (brings(new int[] {p[0], p[1], way % 8, p[3]}, way / 8) >= v) good++;
    }
    int d = java.math.BigInteger.valueOf(good).gcd(java.math.BigInteger.valueOf(24)).intValue();
    return which == 0 ? good / d : 24 / d;
  }

  private long sheet(int k, int lane, int n) throws Refused {
    known(k);
    within(lane, 0, 2);
    refuse(n > 60, -2);
    fault(n < 0, 4);
    sheets[k] = lane == 0 ? new byte[n] : lane == 1 ? new short[n] : new int[n];
    return 1;
  }

  private long put(int k, int i, int v) throws Refused {
    known(k);
    fault(sheets[k] == null, 1);
    fault(i < 0 || i >= lengthOf(sheets[k]), 3);
    set(sheets[k], i, v);
    return 1;
  }

  private long cell(int k, int i, int lane) throws Refused {
    known(k);
    within(lane, 0, 2);
    fault(sheets[k] == null, 1);
    fault(laneOf(sheets[k]) != lane, 2);
    fault(i < 0 || i >= lengthOf(sheets[k]), 3);
    return at(sheets[k], i);
  }

  private long copy(int k, int i, int other, int j, int n) throws Refused {
    known(k);
    known(other);
    fault(sheets[k] == null || sheets[other] == null, 1);
    fault(laneOf(sheets[k]) != laneOf(sheets[other]), 2);
    fault(i < 0 || j < 0 || n < 0, 3);
    fault((long) i + n > lengthOf(sheets[k]) || (long) j + n > lengthOf(sheets[other]), 3);
    int[] were = new int[n];
    for (int c = 0; c < n; c++) were[c] = at(sheets[k], i + c);
    for (int c = 0; c < n; c++) set(sheets[other], j + c, were[c]);
    return n;
  }

  private void leave(int number) {
    trace = (int) (31L * trace + number);
  }

  private long tell(int[] p, int body) {
    leave(body + 1);
    if (body == 0) return p[3];
    long sum = tell(p, body - 1);
    return body == 1 ? sum + 100 : sum + tell(p, 0);
  }
}
