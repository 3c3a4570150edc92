import java.util.ArrayDeque;
import java.util.ArrayList;
import java.util.Arrays;
import java.util.Deque;
import java.util.List;
import java.util.TreeSet;

/**
 * The document told a second time, as slowly and as near to its words as can be, with other means
 * than the class: sets in place of bits, acts undone one by one, every order of people gone through.
 */
final class Model {
    static final int UNKNOWN = -1, BAD = -2, LATE = -3, FULL = -4, NONE = -9;

    /** What ACTS change, and KINDS. */
    static final class Land {
        int n;
        int[] kind = new int[7];
        int[] deed = new int[7];
        boolean[][] feeds = new boolean[7][7];
        boolean[] large = new boolean[7];
        boolean[] dead = new boolean[7];
        int day;

        Land copy() {
            Land c = new Land();
            c.n = n;
            c.kind = kind.clone();
            c.deed = deed.clone();
            for (int i = 0; i < 7; i++) {
                c.feeds[i] = feeds[i].clone();
            }
            c.large = large.clone();
            c.dead = dead.clone();
            c.day = day;
            return c;
        }

        int grade(int p) {
            switch (kind[p]) {
                case 2: return deed[p] + 2;
                case 3: return 0;
                default: return deed[p];
            }
        }

        boolean hidden(int p) {
            if (kind[p] == 1) {
                return false;
            }
            for (int q = 0; q < n; q++) {
                if (q != p && large[q] && feeds[q][p]) {
                    return true;
                }
            }
            return false;
        }

        boolean may(int p) {
            if (!large[p] || hidden(p)) {
                return false;
            }
            for (int q = 0; q < n; q++) {
                if (large[q] && grade(q) > grade(p)) {
                    return false;
                }
            }
            return true;
        }

        List<Integer> fall() {
            Land c = copy();
            List<Integer> row = new ArrayList<>();
            boolean more = true;
            while (more) {
                more = false;
                for (int p = 0; p < n && !more; p++) {
                    if (c.may(p)) {
                        row.add(p);
                        c.large[p] = false;
                        more = true;
                    }
                }
            }
            return row;
        }

        int worth(int p) {
            int at = fall().indexOf(p);
            return at < 0 ? 9 : at;
        }

        int count() {
            int c = 0;
            for (boolean b : large) {
                c += b ? 1 : 0;
            }
            return c;
        }

        int dayPasses() {
            int who = NONE;
            for (int p = n - 1; p >= 0; p--) {
                who = may(p) ? p : who;
            }
            if (who >= 0) {
                large[who] = false;
            }
            day++;
            return who;
        }
    }

    /** An ACT and what it needs to be undone. */
    private record Act(char name, int a, int b, boolean wasLarge) { }

    private String text = "";
    private Land land = new Land();
    private final Deque<Act> acts = new ArrayDeque<>();
    private final Land[] slots = new Land[2];
    private final List<int[]> seen = new ArrayList<>();
    private long seed;

    private boolean no(int p) {
        return p < 0 || p >= land.n;
    }

    private static int bits(boolean[] set) {
        int b = 0;
        for (int i = 0; i < set.length; i++) {
            b += set[i] ? 1 << i : 0;
        }
        return b;
    }

    private void act(char name, int a, int b, boolean wasLarge) {
        acts.addLast(new Act(name, a, b, wasLarge));
        if (acts.size() > 14) {
            acts.removeFirst();
        }
    }

    int write(int letter) {
        if (letter < 0 || letter > 255) {
            return BAD;
        }
        if (text.length() == 48) {
            return FULL;
        }
        text += (char) letter;
        return text.length();
    }

    int wipe() {
        int was = text.length();
        text = "";
        return was;
    }

    /** The county that a whole text tells; null if it tells none. */
    static Land read(String told) {
        if (!told.matches("(?s)A(P[0-9][0-3]|F[0-6][0-6])*")) {
            return null;
        }
        Land l = new Land();
        for (int at = 1; at < told.length(); at += 3) {
            int a = told.charAt(at + 1) - '0';
            int b = told.charAt(at + 2) - '0';
            if (told.charAt(at) == 'P') {
                if (l.n == 7) {
                    return null;
                }
                l.deed[l.n] = a;
                l.kind[l.n] = b;
                l.large[l.n] = true;
                l.n++;
            } else {
                if (a == b || a >= l.n || b >= l.n || l.feeds[a][b]) {
                    return null;
                }
                l.feeds[a][b] = true;
            }
        }
        return l;
    }

    /** Whether something can come behind it (a part has three bytes) so that it is a county. */
    private static boolean canBecomeCounty(String told, int more) {
        if (read(told) != null) {
            return true;
        }
        for (int i = 0; more > 0 && i < 13; i++) {
            if (canBecomeCounty(told + "APF0123456789".charAt(i), more - 1)) {
                return true;
            }
        }
        return false;
    }

    int fault() {
        for (int i = 0; i < text.length(); i++) {
            if (!canBecomeCounty(text.substring(0, i + 1), 2)) {
                return i;
            }
        }
        return read(text) == null ? text.length() : NONE;
    }

    int county() {
        Land l = read(text);
        if (l == null) {
            return LATE;
        }
        land = l;
        acts.clear();
        Arrays.fill(slots, null);
        return l.n;
    }

    int about(int what) {
        boolean[] may = new boolean[7];
        boolean[] hidden = new boolean[7];
        for (int p = 0; p < land.n; p++) {
            may[p] = land.may(p);
            hidden[p] = land.hidden(p);
        }
        int[] answers = {land.n, bits(land.large), bits(may), bits(hidden), bits(land.dead), land.day,
            acts.size(), seen.size(), text.length()};
        return what < 0 || what > 8 ? BAD : answers[what];
    }

    int person(int p, int what) {
        if (no(p)) {
            return UNKNOWN;
        }
        int[] answers = {land.deed[p], land.kind[p], land.grade(p), bits(land.feeds[p])};
        return what < 0 || what > 3 ? BAD : answers[what];
    }

    int take(int p) {
        if (no(p)) {
            return UNKNOWN;
        }
        if (!land.may(p)) {
            return LATE;
        }
        land.large[p] = false;
        act('t', p, 0, true);
        return land.count();
    }

    int free(int p) {
        if (no(p)) {
            return UNKNOWN;
        }
        if (land.large[p] || land.dead[p]) {
            return LATE;
        }
        land.large[p] = true;
        act('l', p, 0, false);
        return land.count();
    }

    int die(int p) {
        if (no(p)) {
            return UNKNOWN;
        }
        if (land.dead[p]) {
            return LATE;
        }
        act('d', p, 0, land.large[p]);
        land.large[p] = false;
        land.dead[p] = true;
        return land.count();
    }

    int feed(int p, int q) {
        if (no(p) || no(q)) {
            return UNKNOWN;
        }
        if (p == q) {
            return BAD;
        }
        act('f', p, q, false);
        land.feeds[p][q] = !land.feeds[p][q];
        return land.feeds[p][q] ? 1 : 0;
    }

    int grade(int p, int deed) {
        if (no(p)) {
            return UNKNOWN;
        }
        if (deed < 0 || deed > 9) {
            return BAD;
        }
        int was = land.deed[p];
        if (was == deed) {
            return LATE;
        }
        act('g', p, was, false);
        land.deed[p] = deed;
        return was;
    }

    int day() {
        int who = land.dayPasses();
        act('y', who, 0, false);
        return who;
    }

    int undo() {
        if (acts.isEmpty()) {
            return LATE;
        }
        Act act = acts.removeLast();
        switch (act.name()) {
            case 't': land.large[act.a()] = true; break;
            case 'l': land.large[act.a()] = false; break;
            case 'd': land.dead[act.a()] = false; land.large[act.a()] = act.wasLarge(); break;
            case 'f': land.feeds[act.a()][act.b()] = !land.feeds[act.a()][act.b()]; break;
            case 'g': land.deed[act.a()] = act.b(); break;
            default:
                land.day--;
                if (act.a() >= 0) {
                    land.large[act.a()] = true;
                }
        }
        return acts.size();
    }

    int fall() {
        StringBuilder figures = new StringBuilder("0");
        for (int p : land.fall()) {
            figures.append(p + 1);
        }
        return Integer.parseInt(figures.toString());
    }

    int place(int p) {
        if (no(p)) {
            return UNKNOWN;
        }
        int at = land.fall().indexOf(p);
        return at < 0 ? NONE : at;
    }

    int last() {
        boolean[] left = land.large.clone();
        for (int p : land.fall()) {
            left[p] = false;
        }
        return bits(left);
    }

    /** All rows of 0, then 1, then 2 pairs, in whatever order they come: of the shortest the least. */
    int toFeed(int p, int what) {
        if (no(p)) {
            return UNKNOWN;
        }
        if (what != 0 && what != 1) {
            return BAD;
        }
        for (int count = 0; count <= 2; count++) {
            TreeSet<Integer> rows = new TreeSet<>();
            addRows(land, p, count, 0, rows);
            if (!rows.isEmpty()) {
                return what == 0 ? count : rows.first();
            }
        }
        return NONE;
    }

    private static void addRows(Land l, int p, int more, int row, TreeSet<Integer> rows) {
        if (more == 0) {
            if (!l.fall().contains(p)) {
                rows.add(row);
            }
            return;
        }
        for (int i = 0; i < l.n; i++) {
            for (int j = 0; j < l.n; j++) {
                if (i != j && !l.feeds[i][j]) {
                    Land c = l.copy();
                    c.feeds[i][j] = true;
                    addRows(c, p, more - 1, 100 * row + 10 * i + j, rows);
                }
            }
        }
    }

    int giveUp(int p) {
        if (no(p)) {
            return UNKNOWN;
        }
        if (!land.large[p]) {
            return LATE;
        }
        for (int count = 0; count < 7; count++) {
            for (int given = 0; given < 128; given++) {
                Land c = land.copy();
                int found = 0;
                for (int q = 0; q < 7; q++) {
                    if ((given >> q & 1) == 1 && land.large[q] && q != p) {
                        c.large[q] = false;
                        found++;
                    }
                }
                boolean allFound = found == Integer.bitCount(given);
                if (found == count && allFound && c.fall().contains(p)) {
                    return given;
                }
            }
        }
        return NONE;
    }

    int claim(int p) {
        if (no(p)) {
            return UNKNOWN;
        }
        if (!land.large[p]) {
            return LATE;
        }
        int[] worth = new int[10];
        for (int deed = 0; deed < 10; deed++) {
            Land c = land.copy();
            c.deed[p] = deed;
            worth[deed] = c.worth(p);
        }
        int best = Arrays.stream(worth).max().getAsInt();
        int deed = 0;
        while (worth[deed] != best) {
            deed++;
        }
        return deed;
    }

    int share(int p, boolean upper) {
        if (no(p)) {
            return UNKNOWN;
        }
        if (!land.large[p]) {
            return upper ? 0 : 1;
        }
        Land empty = land.copy();
        empty.large = new boolean[7];
        long[] sum = new long[2];
        comeOneByOne(empty, p, sum);
        return fraction(sum[0], sum[1], upper);
    }

    /** Every order of those that have not come: sum[0] what it makes, sum[1] how many orders. */
    private void comeOneByOne(Land come, int p, long[] sum) {
        boolean all = true;
        for (int q = 0; q < land.n; q++) {
            if (land.large[q] && !come.large[q]) {
                all = false;
                Land c = come.copy();
                c.large[q] = true;
                long before = sum[1];
                comeOneByOne(c, p, sum);
                if (q == p) {
                    sum[0] += (sum[1] - before) * (c.fall().size() - come.fall().size());
                }
            }
        }
        sum[1] += all ? 1 : 0;
    }

    private static int fraction(long above, long below, boolean upper) {
        long common = java.math.BigInteger.valueOf(above).gcd(java.math.BigInteger.valueOf(below)).longValue();
        return (int) ((upper ? above : below) / common);
    }

    int see(int p, int q) {
        if (no(p) || no(q)) {
            return UNKNOWN;
        }
        if (p == q) {
            return BAD;
        }
        if (seen.size() == 6) {
            return FULL;
        }
        seen.add(new int[] {p, q});
        return seen.size();
    }

    int unsee() {
        int was = seen.size();
        seen.clear();
        return was;
    }

    int did(int p) {
        if (no(p)) {
            return UNKNOWN;
        }
        boolean[] so = new boolean[10];
        for (int deed = 0; deed < 10; deed++) {
            Land c = land.copy();
            c.deed[p] = deed;
            List<Integer> row = c.fall();
            so[deed] = true;
            for (int[] s : seen) {
                boolean there = s[0] < c.n && s[1] < c.n;
                boolean ahead = row.contains(s[0])
                    && (!row.contains(s[1]) || row.indexOf(s[0]) < row.indexOf(s[1]));
                so[deed] &= !there || ahead;
            }
        }
        return bits(so);
    }

    private int has(int who, int p, int choiceOfP, int q, int choiceOfQ) {
        Land c = land.copy();
        if (choiceOfP > 0) {
            c.feeds[p][choiceOfP - 1] = true;
        }
        if (choiceOfQ > 0) {
            c.feeds[q][choiceOfQ - 1] = true;
        }
        int own = who == p ? choiceOfP : choiceOfQ;
        return c.worth(who) - (own > 0 ? 1 : 0);
    }

    int rests(int p, int q, int what) {
        if (no(p) || no(q)) {
            return UNKNOWN;
        }
        if (p == q || what < 0 || what > 1) {
            return BAD;
        }
        if (!land.large[p] || !land.large[q]) {
            return LATE;
        }
        List<Integer> found = new ArrayList<>();
        for (int a = 0; a <= land.n; a++) {
            for (int b = 0; b <= land.n; b++) {
                boolean rest = a != p + 1 && b != q + 1;
                for (int c = 0; c <= land.n && rest; c++) {
                    rest &= c == p + 1 || has(p, p, c, q, b) <= has(p, p, a, q, b);
                    rest &= c == q + 1 || has(q, p, a, q, c) <= has(q, p, a, q, b);
                }
                if (rest) {
                    found.add(10 * a + b);
                }
            }
        }
        if (what == 0) {
            return found.size();
        }
        return found.isEmpty() ? NONE : found.get(0);
    }

    int toss(int p, boolean upper) {
        if (no(p)) {
            return UNKNOWN;
        }
        long whole = 420L * 60 * 60 * 12 * 6 * 2;
        return fraction(odds(land.copy(), p, whole), whole, upper);
    }

    /** Of so many parts, how many take the PERSON; 'whole' can be parted at each step without rest. */
    private static long odds(Land l, int p, long parts) {
        List<Integer> may = new ArrayList<>();
        for (int q = 0; q < l.n; q++) {
            if (l.may(q)) {
                may.add(q);
            }
        }
        long sum = 0;
        for (int q : may) {
            if (parts % may.size() != 0) {
                throw new IllegalStateException("parts");
            }
            long each = parts / may.size();
            l.large[q] = false;
            sum += q == p ? each : odds(l, p, each);
            l.large[q] = true;
        }
        return sum;
    }

    long seed(long v) {
        long was = seed;
        seed = v;
        return was;
    }

    int days(int m) {
        if (m < 1 || m > 30) {
            return BAD;
        }
        Land c = land.copy();
        int taken = 0;
        java.math.BigInteger x = java.math.BigInteger.valueOf(seed);
        for (int i = 0; i < m; i++) {
            x = x.multiply(new java.math.BigInteger("6364136223846793005"))
                .add(new java.math.BigInteger("1442695040888963407"))
                .mod(java.math.BigInteger.ONE.shiftLeft(64));
            int rest = x.shiftRight(33).mod(java.math.BigInteger.valueOf(12)).intValue();
            if (rest <= 6) {
                if (rest < c.n && !c.dead[rest]) {
                    c.dead[rest] = true;
                    c.large[rest] = false;
                }
            } else if (c.dayPasses() >= 0) {
                taken++;
            }
        }
        seed = x.longValue();
        return taken;
    }

    int keep(int slot) {
        if (slot != 0 && slot != 1) {
            return UNKNOWN;
        }
        slots[slot] = land.copy();
        return land.day;
    }

    int again(int slot) {
        if (slot != 0 && slot != 1) {
            return UNKNOWN;
        }
        if (slots[slot] == null) {
            return LATE;
        }
        land = slots[slot].copy();
        acts.clear();
        return land.day;
    }
}
