import java.util.Arrays;

/** A province where a question goes to whoever has been asked least; ../shared/DOC.md has the promises. */
public final class LeastAsked {
    public static final int UNKNOWN = -1, OUTSIDE = -2, STATE = -3, FULL = -4, NONE = -9;
    public static final long LOST = Long.MIN_VALUE;

    private static final int NULL = 1, CAST = 2, INDEX = 3, SIZE = 4;
    private static final int FAULT_BASE = -10, WRONG_BASE = -100;

    private static final int SHEETS = 4, LONGEST_ROW = 60;
    private static final int BYTES = 0, SHORTS = 1, INTS = 2;

    private static final int MATTERS = 3, LEAST_PEOPLE = 2, MOST_PEOPLE = 6;
    private static final int GOOSEHERD = 0, TWIN = 1, HERMIT = 2;
    private static final int KINDS = 3, KNOWLEDGES = 8, DIGITS = 10;
    private static final int MOST_READINGS = 8, MOST_BROUGHT = 200;
    private static final int LONGEST_YEAR = 20, LONGEST_PLAN = 7;

    /** What may be thought to be otherwise, of a PERSON or (the last) of a MATTER. */
    private static final int THE_KNOWS = 0, THE_WIT = 1, THE_KIND = 2, THE_WORTH = 3;

    /** The second numbers of a YEAR's pairs; from LEARNS on it is a PERSON and LEARNS. */
    private static final int ASKS = 0, FEIGNS = 1, LEARNS = 10;

    private final Sheet[] sheets = new Sheet[SHEETS];
    private final Province now = new Province();
    /** A second province for all that is only thought of, so that nothing is changed and nothing made anew. */
    private final Province trial = new Province();
    private final YearRun yearRun = new YearRun();
    private final Planner planner = new Planner();
    private final Giver giver = new Giver();
    private final Readings readings = new Readings();
    private final Bodies bodies = new Bodies();
    private int questions = 0;
    private int brought = 0;
    private int lastFault = 0;

    public LeastAsked() {
        for (int k = 0; k < SHEETS; k++) {
            sheets[k] = new Sheet();
        }
    }

    // ---- 1 the province

    public int province(int sheet, int lane, int i, int n) {
        lastFault = 0;
        if (!isSheet(sheet)) {
            return UNKNOWN;
        }
        if (!isLane(lane)) {
            return OUTSIDE;
        }
        Sheet text = sheets[sheet];
        int found = text.faultAs(lane);
        if (found == 0 && n < 0) {
            found = SIZE;
        }
        if (found == 0 && !text.holds(i, n)) {
            found = INDEX;
        }
        if (found != 0) {
            return failed(found);
        }
        int wrong = Text.firstFault(text, i, n);
        if (wrong != NONE) {
            return WRONG_BASE - wrong;
        }
        Text.read(text, i, n, now);
        questions = 0;
        brought = 0;
        readings.count = 0;
        return now.count;
    }

    public int ofPerson(int p, int what) {
        if (!now.hasPerson(p)) {
            return UNKNOWN;
        }
        Person person = now.people[p];
        switch (what) {
            case 0: return person.kind;
            case 1: return person.asked;
            case 2: return person.knows;
            case 3: return person.wit;
            case 4: return person.saying();
            case 5: return now.placeOf(p);
            default: return OUTSIDE;
        }
    }

    public int worth(int m) {
        return now.hasMatter(m) ? now.worths[m] : UNKNOWN;
    }

    public int weigh(int m, int v) {
        if (!now.hasMatter(m)) {
            return UNKNOWN;
        }
        if (!isBelow(v, DIGITS)) {
            return OUTSIDE;
        }
        int was = now.worths[m];
        now.worths[m] = v;
        return was;
    }

    public int teach(int p, int v) {
        if (!now.hasPerson(p)) {
            return UNKNOWN;
        }
        if (!isBelow(v, KNOWLEDGES)) {
            return OUTSIDE;
        }
        int was = now.people[p].knows;
        now.people[p].knows = v;
        return was;
    }

    public int sharpen(int p, int v) {
        if (!now.hasPerson(p)) {
            return UNKNOWN;
        }
        if (!isBelow(v, DIGITS)) {
            return OUTSIDE;
        }
        int was = now.people[p].wit;
        now.people[p].wit = v;
        return was;
    }

    public int brings(int p, int m) {
        if (!now.hasPerson(p) || !now.hasMatter(m)) {
            return UNKNOWN;
        }
        return now.bringing(p, m);
    }

    // ---- 2 questions

    public int question(int m) {
        if (!now.hasMatter(m)) {
            return UNKNOWN;
        }
        int p = now.first();
        now.people[p].asked++;
        questions++;
        brought += now.bringing(p, m);
        return p;
    }

    public int feint(int p) {
        if (!now.hasPerson(p)) {
            return UNKNOWN;
        }
        if (now.first() != p) {
            return STATE;
        }
        now.people[p].asked++;
        return now.people[p].asked;
    }

    public int year(int sheet, int lane, int i, int n, int what) {
        lastFault = 0;
        if (!isSheet(sheet)) {
            return UNKNOWN;
        }
        if (!isLane(lane) || n < 0 || n > LONGEST_YEAR || !YearRun.tells(what)) {
            return OUTSIDE;
        }
        int found = rowFault(sheets[sheet], lane, i, 2 * n);
        if (found != 0) {
            return failed(found);
        }
        if (now.count == 0) {
            return STATE;
        }
        int refusal = YearRun.refusal(sheets[sheet], i, n, now);
        if (refusal != 0) {
            return refusal;
        }
        trial.becomeLike(now);
        yearRun.go(sheets[sheet], i, n, trial);
        return yearRun.answer(what, trial);
    }

    // ---- 3 whose turn it is

    public int register(int k) {
        if (!isBelow(k, MOST_PEOPLE)) {
            return OUTSIDE;
        }
        if (now.count == 0) {
            return STATE;
        }
        return now.atPlace(k);
    }

    public int turn(int p) {
        return now.hasPerson(p) ? now.questionsAheadOf(p) : UNKNOWN;
    }

    public int steer(int m) {
        return now.hasMatter(m) ? now.feintsTillKnown(m) : UNKNOWN;
    }

    public int even() {
        return now.count == 0 ? STATE : now.questionsTillEven();
    }

    public int plan(int sheet, int lane, int i, int n, int k) {
        lastFault = 0;
        if (!isSheet(sheet)) {
            return UNKNOWN;
        }
        if (!isLane(lane) || n < 0 || n > LONGEST_PLAN || k < -1 || k >= LONGEST_PLAN) {
            return OUTSIDE;
        }
        int found = rowFault(sheets[sheet], lane, i, n);
        if (found != 0) {
            return failed(found);
        }
        if (now.count == 0) {
            return STATE;
        }
        for (int place = 0; place < n; place++) {
            if (!now.hasMatter(sheets[sheet].cells[i + place])) {
                return UNKNOWN;
            }
        }
        trial.becomeLike(now);
        planner.make(sheets[sheet], i, n, trial);
        return planner.answer(k);
    }

    public int best(int k) {
        if (k < -1 || k >= MATTERS) {
            return OUTSIDE;
        }
        if (now.count == 0) {
            return STATE;
        }
        giver.give(now);
        return k == -1 ? giver.most : giver.row[k];
    }

    // ---- 4 what was brought

    public int reading(int p, int m, int v) {
        if (!now.hasPerson(p) || !now.hasMatter(m)) {
            return UNKNOWN;
        }
        if (v < 0 || v > MOST_BROUGHT) {
            return OUTSIDE;
        }
        if (readings.count >= MOST_READINGS) {
            return FULL;
        }
        return readings.take(p, m, v);
    }

    public int back(int n) {
        if (n < 0 || n > readings.count) {
            return OUTSIDE;
        }
        readings.count -= n;
        return readings.count;
    }

    public int knowings(int p) {
        return now.hasPerson(p) ? possible(THE_KNOWS, p, KNOWLEDGES) : UNKNOWN;
    }

    public int wits(int p) {
        return now.hasPerson(p) ? possible(THE_WIT, p, DIGITS) : UNKNOWN;
    }

    public int kinds(int p) {
        return now.hasPerson(p) ? possible(THE_KIND, p, KINDS) : UNKNOWN;
    }

    public int worths(int m) {
        return now.hasMatter(m) ? possible(THE_WORTH, m, DIGITS) : UNKNOWN;
    }

    public long odds(int p, int v, int which) {
        if (!now.hasPerson(p) || v < 0 || v > MOST_BROUGHT || which < 0 || which > 1) {
            return LOST;
        }
        int ways = KNOWLEDGES * MATTERS;
        int good = waysToBring(p, v);
        int shared = commonDivisor(good, ways);
        return which == 0 ? good / shared : ways / shared;
    }

    // ---- 5 sheets, parts

    public int sheet(int k, int lane, int n) {
        lastFault = 0;
        if (!isSheet(k)) {
            return UNKNOWN;
        }
        if (!isLane(lane) || n > LONGEST_ROW) {
            return OUTSIDE;
        }
        if (n < 0) {
            return failed(SIZE);
        }
        sheets[k].begin(lane, n);
        return 1;
    }

    public int lose(int k) {
        if (!isSheet(k)) {
            return UNKNOWN;
        }
        int had = sheets[k].filled ? 1 : 0;
        sheets[k].filled = false;
        return had;
    }

    public int put(int k, int i, int v) {
        lastFault = 0;
        if (!isSheet(k)) {
            return UNKNOWN;
        }
        Sheet row = sheets[k];
        if (!row.filled) {
            return failed(NULL);
        }
        if (!isBelow(i, row.length)) {
            return failed(INDEX);
        }
        row.cells[i] = row.cut(v);
        return 1;
    }

    public long cell(int k, int i, int lane) {
        lastFault = 0;
        if (!isSheet(k) || !isLane(lane)) {
            return LOST;
        }
        Sheet row = sheets[k];
        lastFault = row.faultAs(lane);
        if (lastFault == 0 && !isBelow(i, row.length)) {
            lastFault = INDEX;
        }
        return lastFault == 0 ? row.cells[i] : LOST;
    }

    public int copy(int k, int i, int other, int j, int n) {
        lastFault = 0;
        if (!isSheet(k) || !isSheet(other)) {
            return UNKNOWN;
        }
        Sheet from = sheets[k];
        Sheet to = sheets[other];
        if (!from.filled || !to.filled) {
            return failed(NULL);
        }
        if (from.lane != to.lane) {
            return failed(CAST);
        }
        if (!from.holds(i, n) || !to.holds(j, n)) {
            return failed(INDEX);
        }
        System.arraycopy(from.cells, i, to.cells, j, n);
        return n;
    }

    public int tell(int p) {
        return now.hasPerson(p) ? bodies.telling(now.people[p]) : UNKNOWN;
    }

    public int greet(int p) {
        return now.hasPerson(p) ? bodies.greeting(now.people[p]) : UNKNOWN;
    }

    public int as(int p, int kind) {
        lastFault = 0;
        if (!now.hasPerson(p)) {
            return UNKNOWN;
        }
        if (!isBelow(kind, KINDS)) {
            return OUTSIDE;
        }
        // Each kind is also every kind of a lesser number.
        return now.people[p].kind >= kind ? 1 : failed(CAST);
    }

    public int trace() {
        return bodies.left;
    }

    public int fault() {
        return lastFault;
    }

    public int many(int what) {
        switch (what) {
            case 0: return now.count;
            case 1: return questions;
            case 2: return brought;
            case 3: return readings.count;
            default: return OUTSIDE;
        }
    }

    // ---- what several calls share

    private static boolean isBelow(int v, int limit) {
        return v >= 0 && v < limit;
    }

    private static boolean isSheet(int k) {
        return isBelow(k, SHEETS);
    }

    private static boolean isLane(int lane) {
        return lane == BYTES || lane == SHORTS || lane == INTS;
    }

    private int failed(int found) {
        lastFault = found;
        return FAULT_BASE - found;
    }

    private static int rowFault(Sheet row, int lane, int i, int n) {
        int found = row.faultAs(lane);
        return found == 0 && !row.holds(i, n) ? INDEX : found;
    }

    private int possible(int what, int whose, int values) {
        int set = 0;
        trial.becomeLike(now);
        for (int v = 0; v < values; v++) {
            trial.suppose(what, whose, v);
            if (readings.allSo(trial)) {
                set |= 1 << v;
            }
        }
        return set;
    }

    private int waysToBring(int p, int v) {
        int good = 0;
        trial.becomeLike(now);
        for (int knows = 0; knows < KNOWLEDGES; knows++) {
            trial.people[p].knows = knows;
            for (int m = 0; m < MATTERS; m++) {
                if (trial.bringing(p, m) >= v) {
                    good++;
                }
            }
        }
        return good;
    }

    private static int commonDivisor(int a, int b) {
        for (int d = b; d > 1; d--) {
            if (a % d == 0 && b % d == 0) {
                return d;
            }
        }
        return 1;
    }

    /** A SHEET; its cells are made once and used for every row that it gets. */
    private static final class Sheet {
        final int[] cells = new int[LONGEST_ROW];
        boolean filled = false;
        int lane = BYTES;
        int length = 0;

        void begin(int newLane, int newLength) {
            Arrays.fill(cells, 0);
            filled = true;
            lane = newLane;
            length = newLength;
        }

        int cut(int v) {
            if (lane == BYTES) {
                return (byte) v;
            }
            return lane == SHORTS ? (short) v : v;
        }

        int faultAs(int asLane) {
            if (!filled) {
                return NULL;
            }
            return lane == asLane ? 0 : CAST;
        }

        boolean holds(int i, int n) {
            // i + n could wrap; length - i can't, as i is tested first.
            return i >= 0 && i <= length && n >= 0 && n <= length - i;
        }
    }

    private static final class Person {
        int kind = GOOSEHERD;
        int asked = 0;
        int knows = 0;
        int wit = 0;

        boolean isKnowing(int m) {
            return (knows >> m & 1) == 1;
        }

        int saying() {
            if (kind == TWIN) {
                return wit + 1;
            }
            return kind == HERMIT ? 2 * wit : wit;
        }

        void becomeLike(Person other) {
            kind = other.kind;
            asked = other.asked;
            knows = other.knows;
            wit = other.wit;
        }
    }

    /** MATTERS and PEOPLE; with no PEOPLE there is no PROVINCE, and there are no MATTERS. */
    private static final class Province {
        final int[] worths = new int[MATTERS];
        final Person[] people = new Person[MOST_PEOPLE];
        int count = 0;

        Province() {
            for (int p = 0; p < MOST_PEOPLE; p++) {
                people[p] = new Person();
            }
        }

        void becomeLike(Province other) {
            count = other.count;
            System.arraycopy(other.worths, 0, worths, 0, MATTERS);
            for (int p = 0; p < MOST_PEOPLE; p++) {
                people[p].becomeLike(other.people[p]);
            }
        }

        void suppose(int what, int whose, int v) {
            switch (what) {
                case THE_KNOWS: people[whose].knows = v; break;
                case THE_WIT: people[whose].wit = v; break;
                case THE_KIND: people[whose].kind = v; break;
                default: worths[whose] = v; break;
            }
        }

        boolean hasPerson(int p) {
            return isBelow(p, count);
        }

        boolean hasMatter(int m) {
            return count > 0 && isBelow(m, MATTERS);
        }

        int bringing(int p, int m) {
            int says = people[p].saying();
            return people[p].isKnowing(m) ? says * worths[m] : says;
        }

        int first() {
            int least = 0;
            for (int p = 1; p < count; p++) {
                if (people[p].asked < people[least].asked) {
                    least = p;
                }
            }
            return least;
        }

        int placeOf(int p) {
            int ahead = 0;
            for (int q = 0; q < count; q++) {
                if (timesAhead(q, p) > 0) {
                    ahead++;
                }
            }
            return ahead;
        }

        int atPlace(int k) {
            for (int p = 0; p < count; p++) {
                if (placeOf(p) == k) {
                    return p;
                }
            }
            return NONE;
        }

        /** How often q is ASKED till p's turn: while he was ASKED less, or as often and is the lesser. */
        int timesAhead(int q, int p) {
            int till = people[p].asked + (q < p ? 1 : 0);
            return Math.max(0, till - people[q].asked);
        }

        int questionsAheadOf(int p) {
            int sum = 0;
            for (int q = 0; q < count; q++) {
                sum += timesAhead(q, p);
            }
            return sum;
        }

        /** A FEINT moves the turn on as a QUESTION does, so it is the first turn of those who KNOW. */
        int feintsTillKnown(int m) {
            int least = NONE;
            for (int p = 0; p < count; p++) {
                if (people[p].isKnowing(m)) {
                    int feints = questionsAheadOf(p);
                    least = least == NONE ? feints : Math.min(least, feints);
                }
            }
            return least;
        }

        /** Nobody is ASKED beyond the most before all have come up to it. */
        int questionsTillEven() {
            int most = 0;
            int sum = 0;
            for (int p = 0; p < count; p++) {
                most = Math.max(most, people[p].asked);
                sum += people[p].asked;
            }
            return most * count - sum;
        }
    }

    /** A TEXT: which code may stand where hangs on its place alone. */
    private static final class Text {
        static final int HEAD = 4, PART = 5;

        static int firstFault(Sheet sheet, int i, int n) {
            for (int place = 0; place < n; place++) {
                if (!mayStand(place, sheet.cells[i + place])) {
                    return place;
                }
            }
            boolean whole = n >= HEAD + LEAST_PEOPLE * PART && (n - HEAD) % PART == 0;
            return whole ? NONE : n;
        }

        static boolean mayStand(int place, int code) {
            if (place == 0) {
                return code == 'p';
            }
            if (place < HEAD) {
                return isDigit(code, DIGITS);
            }
            if (place >= HEAD + MOST_PEOPLE * PART) {
                return false;
            }
            switch ((place - HEAD) % PART) {
                case 0: return code == ';';
                case 1: return kindOf(code) != NONE;
                case 3: return isDigit(code, KNOWLEDGES);
                default: return isDigit(code, DIGITS);
            }
        }

        static boolean isDigit(int code, int values) {
            return code >= '0' && code < '0' + values;
        }

        static int kindOf(int code) {
            switch (code) {
                case 'g': return GOOSEHERD;
                case 't': return TWIN;
                case 'h': return HERMIT;
                default: return NONE;
            }
        }

        /** Only for a TEXT without a fault. */
        static void read(Sheet sheet, int i, int n, Province province) {
            int[] cells = sheet.cells;
            for (int m = 0; m < MATTERS; m++) {
                province.worths[m] = cells[i + 1 + m] - '0';
            }
            province.count = (n - HEAD) / PART;
            for (int p = 0; p < province.count; p++) {
                int at = i + HEAD + p * PART;
                Person person = province.people[p];
                person.kind = kindOf(cells[at + 1]);
                person.asked = cells[at + 2] - '0';
                person.knows = cells[at + 3] - '0';
                person.wit = cells[at + 4] - '0';
            }
        }
    }

    /** A YEAR as it goes on, and what came of it. */
    private static final class YearRun {
        int brought = 0;
        int askedSet = 0;
        int toKnowing = 0;
        int wrong = NONE;

        static boolean tells(int what) {
            return isBelow(what, 5) || isLearner(what);
        }

        static boolean isLearner(int v) {
            return v >= LEARNS && v < LEARNS + MOST_PEOPLE;
        }

        /** All pairs are looked at ahead of the first act: a refusal goes before any FIRST WRONG. */
        static int refusal(Sheet sheet, int i, int n, Province province) {
            for (int act = 0; act < n; act++) {
                int at = i + 2 * act;
                int found = pairRefusal(sheet.cells[at], sheet.cells[at + 1], province);
                if (found != 0) {
                    return found;
                }
            }
            return 0;
        }

        static int pairRefusal(int whom, int deed, Province province) {
            if (deed == ASKS) {
                return province.hasMatter(whom) ? 0 : UNKNOWN;
            }
            if (deed == FEIGNS) {
                return province.hasPerson(whom) ? 0 : UNKNOWN;
            }
            return isLearner(deed) && isBelow(whom, KNOWLEDGES) ? 0 : OUTSIDE;
        }

        /** Only for pairs without a refusal. */
        void go(Sheet sheet, int i, int n, Province then) {
            brought = 0;
            askedSet = 0;
            toKnowing = 0;
            wrong = NONE;
            for (int act = 0; act < n && wrong == NONE; act++) {
                int at = i + 2 * act;
                if (!isDone(sheet.cells[at], sheet.cells[at + 1], then)) {
                    wrong = act;
                }
            }
        }

        boolean isDone(int whom, int deed, Province then) {
            if (deed == ASKS) {
                ask(whom, then);
                return true;
            }
            int p = deed == FEIGNS ? whom : deed - LEARNS;
            if (!then.hasPerson(p) || deed == FEIGNS && then.first() != p) {
                return false;
            }
            if (deed == FEIGNS) {
                then.people[p].asked++;
            } else {
                then.people[p].knows = whom;
            }
            return true;
        }

        void ask(int m, Province then) {
            int p = then.first();
            then.people[p].asked++;
            brought += then.bringing(p, m);
            askedSet |= 1 << p;
            if (then.people[p].isKnowing(m)) {
                toKnowing++;
            }
        }

        int answer(int what, Province then) {
            if (what == 1) {
                return wrong;
            }
            if (wrong != NONE) {
                return WRONG_BASE - wrong;
            }
            switch (what) {
                case 0: return brought;
                case 2: return askedSet;
                case 3: return toKnowing;
                case 4: return then.first();
                default: return then.hasPerson(what - LEARNS) ? then.people[what - LEARNS].asked : NONE;
            }
        }
    }

    /**
     * Who is ASKED as the first, second, .. does not hang on the MATTERS, so the most that is still to be had
     * hangs only on the set of places that were used.
     */
    private static final class Planner {
        final int[] matters = new int[LONGEST_PLAN];
        final int[] whoIsAsked = new int[LONGEST_PLAN];
        final int[] row = new int[LONGEST_PLAN];
        final int[] mostAfter = new int[1 << LONGEST_PLAN];
        int length = 0;

        /** Only for cells that are MATTERS; the PEOPLE of the province are ASKED by it. */
        void make(Sheet sheet, int i, int n, Province province) {
            length = n;
            for (int step = 0; step < n; step++) {
                matters[step] = sheet.cells[i + step];
                whoIsAsked[step] = province.first();
                province.people[whoIsAsked[step]].asked++;
            }
            int all = (1 << n) - 1;
            mostAfter[all] = 0;
            for (int used = all - 1; used >= 0; used--) {
                mostAfter[used] = mostWith(used, nextPlace(used, province), province);
            }
            int used = 0;
            for (int step = 0; step < n; step++) {
                row[step] = nextPlace(used, province);
                used |= 1 << row[step];
            }
        }

        int mostWith(int used, int place, Province province) {
            int step = Integer.bitCount(used);
            return province.bringing(whoIsAsked[step], matters[place]) + mostAfter[used | 1 << place];
        }

        /** The first of the places by which the most is had; only while one is not used. */
        int nextPlace(int used, Province province) {
            int found = 0;
            int most = -1;
            for (int place = 0; place < length; place++) {
                boolean free = (used >> place & 1) == 0;
                if (free && mostWith(used, place, province) > most) {
                    most = mostWith(used, place, province);
                    found = place;
                }
            }
            return found;
        }

        int answer(int k) {
            if (k == -1) {
                return mostAfter[0];
            }
            return k < length ? row[k] : NONE;
        }
    }

    /** BEST: MATTERS given to PEOPLE. */
    private static final class Giver {
        final int[] row = new int[MATTERS];
        int most = 0;

        void give(Province province) {
            int nobody = province.count;
            most = -1;
            // nobody is the greatest number here, as 9 is in the rows that the document compares.
            for (int a = 0; a <= nobody; a++) {
                for (int b = 0; b <= nobody; b++) {
                    for (int c = 0; c <= nobody; c++) {
                        consider(a, b, c, province);
                    }
                }
            }
        }

        void consider(int a, int b, int c, Province province) {
            int nobody = province.count;
            boolean twice = a == b && a != nobody || a == c && a != nobody || b == c && b != nobody;
            int given = (a != nobody ? 1 : 0) + (b != nobody ? 1 : 0) + (c != nobody ? 1 : 0);
            if (twice || given != Math.min(MATTERS, nobody)) {
                return;
            }
            int together = gain(a, 0, province) + gain(b, 1, province) + gain(c, 2, province);
            if (together > most) {
                most = together;
                row[0] = a == nobody ? NONE : a;
                row[1] = b == nobody ? NONE : b;
                row[2] = c == nobody ? NONE : c;
            }
        }

        static int gain(int p, int m, Province province) {
            return province.hasPerson(p) ? province.bringing(p, m) : 0;
        }
    }

    private static final class Readings {
        final int[] persons = new int[MOST_READINGS];
        final int[] matters = new int[MOST_READINGS];
        final int[] values = new int[MOST_READINGS];
        int count = 0;

        /** Only while there are less than MOST_READINGS. */
        int take(int p, int m, int v) {
            int number = count;
            persons[number] = p;
            matters[number] = m;
            values[number] = v;
            count++;
            return number;
        }

        boolean allSo(Province province) {
            for (int r = 0; r < count; r++) {
                if (province.bringing(persons[r], matters[r]) != values[r]) {
                    return false;
                }
            }
            return true;
        }
    }

    /** The bodies by which PEOPLE are told and GREETED, and the TRACE that they leave. */
    private static final class Bodies {
        int left = 0;

        void begin(int number) {
            left = 31 * left + number;
        }

        int telling(Person person) {
            switch (person.kind) {
                case TWIN: return twinTelling(person);
                case HERMIT: return hermitTelling(person);
                default: return gooseherdTelling(person);
            }
        }

        int gooseherdTelling(Person person) {
            begin(1);
            return person.wit;
        }

        int twinTelling(Person person) {
            begin(2);
            return gooseherdTelling(person) + 100;
        }

        int hermitTelling(Person person) {
            begin(3);
            int asTwin = twinTelling(person);
            return asTwin + gooseherdTelling(person);
        }

        int greeting(Person person) {
            if (person.kind == HERMIT) {
                begin(5);
                return 40;
            }
            begin(4);
            return person.asked;
        }
    }
}
