import java.util.ArrayList;
import java.util.Arrays;
import java.util.List;

/**
 * The document's words once more, in the slowest and plainest form and in another way than the
 * class: parts one by one, all orders written out, all rows of acts tried. It may use the library.
 */
final class Model {
    static final int UNKNOWN = -1, BAD = -2, LATE = -3, FULL = -4, NONE = -9;

    /** Poles, store, what is had, rains: what acts change and slots keep. */
    static final class State {
        int[] poles = new int[4];
        int store;
        boolean[] had = new boolean[7];
        int rained;

        State copy() {
            State s = new State();
            s.poles = poles.clone();
            s.store = store;
            s.had = had.clone();
            s.rained = rained;
            return s;
        }

        int count() {
            int n = 0;
            for (boolean h : had) {
                n += h ? 1 : 0;
            }
            return n;
        }
    }

    private String text = "";
    private int[] cell = new int[0];
    private int[] kind = new int[0];
    private State now = new State();
    private final List<State> acts = new ArrayList<>();
    private final List<int[]> tried = new ArrayList<>();
    private final State[] slots = new State[2];
    private long seed = 0;

    int write(int letter) {
        if (letter < 0 || letter > 255) return BAD;
        if (text.length() == 32) return FULL;
        text += (char) letter;
        return text.length();
    }

    int wipe() {
        int n = text.length();
        text = "";
        return n;
    }

    /** Whether some idea begins with this text: by trying to finish it. */
    private static boolean canBegin(String t) {
        return isIdea(t) || isIdea(t + "I0") || isIdea(t + "0")
                || isIdea(t + finish(t, 1)) || isIdea(t + finish(t, 2));
    }

    private static String finish(String t, int missing) {
        if (missing == 1) return "0";
        for (char c = 'a'; c <= 'p'; c++) {
            if (isIdea(t + c + "0")) return c + "0";
        }
        return "";
    }

    private static boolean isIdea(String t) {
        if (!t.matches("(?s)I[0-9](P[a-p][0-3]){0,7}")) return false;
        String cells = "";
        for (int i = 3; i < t.length(); i += 3) {
            if (cells.indexOf(t.charAt(i)) >= 0) return false;
            cells += t.charAt(i);
        }
        return true;
    }

    int fault() {
        if (isIdea(text)) return NONE;
        for (int n = 1; n <= text.length(); n++) {
            if (!canBegin(text.substring(0, n))) return n - 1;
        }
        return text.length();
    }

    int idea() {
        if (fault() != NONE) return LATE;
        int n = (text.length() - 2) / 3;
        cell = new int[n];
        kind = new int[n];
        for (int i = 0; i < n; i++) {
            cell[i] = text.charAt(3 + 3 * i) - 'a';
            kind[i] = text.charAt(4 + 3 * i) - '0';
        }
        now = new State();
        now.store = text.charAt(1) - '0';
        acts.clear();
        slots[0] = null;
        slots[1] = null;
        return 10 * now.store + n;
    }

    private boolean pole(State s, int c) {
        return s.poles[c % 4] > c / 4;
    }

    private boolean standsAt(boolean[] stands, int column, int lift) {
        if (column < 0 || column > 3 || lift < 0) return false;
        for (int p = 0; p < cell.length; p++) {
            if (stands[p] && cell[p] % 4 == column && cell[p] / 4 == lift) return true;
        }
        return false;
    }

    private boolean held(State s, boolean[] stands, int p) {
        int column = cell[p] % 4;
        int lift = cell[p] / 4;
        if (pole(s, cell[p]) || lift == 0) return true;
        if (kind[p] == 0) return standsAt(stands, column, lift - 1);
        if (kind[p] == 1) {
            return standsAt(stands, column - 1, lift) && standsAt(stands, column + 1, lift);
        }
        if (kind[p] == 2) {
            return standsAt(stands, column - 1, lift - 1) || standsAt(stands, column, lift - 1)
                    || standsAt(stands, column + 1, lift - 1);
        }
        return true;
    }

    private void settle(State s) {
        boolean[] stands = new boolean[7];
        boolean more = true;
        while (more) {
            more = false;
            for (int p = 0; p < cell.length; p++) {
                if (s.had[p] && !stands[p] && held(s, stands, p)) {
                    stands[p] = true;
                    more = true;
                }
            }
        }
        s.had = stands;
    }

    private boolean doPut(State s, int column) {
        if (s.store == 0 || s.poles[column] == 4) return false;
        s.store--;
        s.poles[column]++;
        for (int p = 0; p < cell.length; p++) {
            if (cell[p] == column + 4 * (s.poles[column] - 1)) s.had[p] = true;
        }
        settle(s);
        return true;
    }

    private boolean doStrike(State s, int column) {
        if (s.poles[column] == 0) return false;
        s.poles[column]--;
        s.store++;
        settle(s);
        return true;
    }

    private void doRain(State s) {
        for (int p = 0; p < cell.length; p++) {
            if (kind[p] == 3 && !pole(s, cell[p])) s.had[p] = false;
        }
        s.rained++;
        settle(s);
    }

    private static int sum(int[] row) {
        return Arrays.stream(row).sum();
    }

    private static int bits(boolean[] row) {
        int b = 0;
        for (int i = 0; i < row.length; i++) {
            if (row[i]) b += (int) Math.round(Math.pow(2, i));
        }
        return b;
    }

    int about(int what) {
        if (what == 0) return cell.length;
        if (what == 1) return now.store;
        if (what == 2) return sum(now.poles);
        if (what == 3) return bits(now.had);
        if (what == 4) return now.rained;
        if (what == 5) {
            State s = now.copy();
            for (int c = 0; c < 4; c++) {
                while (doStrike(s, c)) {
                }
            }
            return bits(s.had);
        }
        if (what == 6) return acts.size();
        if (what == 7) return tried.size();
        if (what == 8) return text.length();
        return BAD;
    }

    int part(int part, int what) {
        if (part < 0 || part >= cell.length) return UNKNOWN;
        if (what == 0) return cell[part];
        if (what == 1) return kind[part];
        if (what == 2) return now.had[part] ? 1 : 0;
        if (what == 3) return pole(now, cell[part]) ? 1 : 0;
        return BAD;
    }

    int column(int column) {
        return column < 0 || column > 3 ? UNKNOWN : now.poles[column];
    }

    int at(int c) {
        if (c < 0 || c > 15) return UNKNOWN;
        for (int p = 0; p < cell.length; p++) {
            if (cell[p] == c) return p;
        }
        return NONE;
    }

    private void note(State before) {
        acts.add(before);
        if (acts.size() > 14) acts.remove(0);
    }

    int put(int column) {
        if (column < 0 || column > 3) return UNKNOWN;
        if (now.store == 0) return LATE;
        if (now.poles[column] == 4) return FULL;
        note(now.copy());
        doPut(now, column);
        return now.count();
    }

    int strike(int column) {
        if (column < 0 || column > 3) return UNKNOWN;
        if (now.poles[column] == 0) return LATE;
        State before = now.copy();
        note(before);
        doStrike(now, column);
        return before.count() - now.count();
    }

    int rain() {
        State before = now.copy();
        note(before);
        doRain(now);
        return before.count() - now.count();
    }

    int undo() {
        if (acts.isEmpty()) return LATE;
        now = acts.remove(acts.size() - 1);
        return acts.size();
    }

    int loses(int column) {
        if (column < 0 || column > 3) return UNKNOWN;
        State s = now.copy();
        if (!doStrike(s, column)) return LATE;
        return bits(now.had) - bits(s.had);
    }

    int down(int column) {
        if (column < 0 || column > 3) return UNKNOWN;
        int best = now.poles[column];
        State s = now.copy();
        while (doStrike(s, column)) {
            if (s.count() == now.count()) best = s.poles[column];
        }
        return best;
    }

    private boolean hasAll(State s, int parts) {
        return (bits(s.had) & parts) == parts;
    }

    /** All rows of so many acts, by counting through their figures. */
    private int firstRow(int parts, int length) {
        int end = (int) Math.round(Math.pow(8, length));
        for (int i = 0; i < end; i++) {
            State s = now.copy();
            int told = 0;
            boolean can = true;
            for (int k = length - 1; k >= 0 && can; k--) {
                int figure = i / (int) Math.round(Math.pow(8, k)) % 8;
                told = told * 10 + figure + 1;
                can = figure < 4 ? doPut(s, figure) : doStrike(s, figure - 4);
            }
            if (can && hasAll(s, parts)) return told;
        }
        return NONE;
    }

    int soon(int parts, int what) {
        if (parts < 0 || parts > Math.pow(2, cell.length) - 1) return BAD;
        if (what < 0 || what > 1) return BAD;
        for (int length = 0; length <= 4; length++) {
            int row = firstRow(parts, length);
            if (row != NONE) return what == 0 ? length : row;
        }
        return NONE;
    }

    int judge(int n, long row) {
        if (n < 1 || n > 4 || row < 0) return BAD;
        String figures = Long.toString(row);
        if (figures.length() > 3 * n) return BAD;
        while (figures.length() < 3 * n) figures = "0" + figures;
        State s = now.copy();
        for (int i = 0; i < n; i++) {
            String doing = figures.substring(3 * i, 3 * i + 3);
            int b = doing.charAt(1) - '0';
            int c = doing.charAt(2) - '0';
            boolean so = false;
            if (doing.matches("10[0-3]")) so = doPut(s, c);
            if (doing.matches("20[0-3]")) so = doStrike(s, c);
            if (doing.equals("300")) {
                doRain(s);
                so = true;
            }
            if (doing.startsWith("40")) so = c < cell.length && s.had[c];
            if (doing.matches("5[0-3].")) so = s.poles[b] >= c;
            if (!so) return i;
        }
        return NONE;
    }

    private static int[] leastTerms(int above, int below) {
        for (int d = Math.max(above, below); d > 1; d--) {
            if (above % d == 0 && below % d == 0) {
                above /= d;
                below /= d;
            }
        }
        return new int[] {above, below};
    }

    /** Goes through all orders; [0] is the sum of gains, [1] how many orders. */
    private void orders(List<Integer> come, int part, int[] sums) {
        if (come.size() == cell.length) {
            State s = new State();
            int before = 0;
            for (int p : come) {
                s.had[p] = true;
                State settled = s.copy();
                settle(settled);
                if (p == part) sums[0] += settled.count() - before;
                before = settled.count();
            }
            sums[1]++;
            return;
        }
        for (int p = 0; p < cell.length; p++) {
            if (!come.contains(p)) {
                come.add(p);
                orders(come, part, sums);
                come.remove(come.size() - 1);
            }
        }
    }

    int share(int part, boolean upper) {
        if (part < 0 || part >= cell.length) return UNKNOWN;
        int[] sums = new int[2];
        orders(new ArrayList<>(), part, sums);
        return leastTerms(sums[0], sums[1])[upper ? 0 : 1];
    }

    int attempt(int about, int stood) {
        if (about < 0 || about > 31 || stood < 0 || stood > 1) return BAD;
        if (tried.size() == 6) return FULL;
        tried.add(new int[] {about, stood});
        return tried.size();
    }

    int unattempt() {
        int n = tried.size();
        tried.clear();
        return n;
    }

    int kinds(int what) {
        if (what < 0 || what > 1) return BAD;
        List<Integer> all = new ArrayList<>();
        for (int told = 0; told < 40; told++) {
            int k = told / 10;
            int lift = told % 10;
            boolean so = lift < 4;
            for (int[] t : tried) {
                boolean below = t[0] % 2 == 1;
                boolean left = t[0] / 2 % 2 == 1;
                boolean right = t[0] / 4 % 2 == 1;
                boolean askew = t[0] >= 8;
                boolean stands = lift == 0 || k == 3 || k == 0 && below || k == 1 && left && right
                        || k == 2 && (below || askew);
                so = so && stands == (t[1] == 1);
            }
            if (so) all.add(told);
        }
        if (what == 0) return all.size();
        return all.isEmpty() ? NONE : all.get(0);
    }

    private int worth(State s, int column) {
        int n = -s.poles[column];
        for (int p = 0; p < cell.length; p++) {
            if (cell[p] % 4 == column && s.had[p]) n += 2;
        }
        return n;
    }

    private State chosen(State from, int column, int choice) {
        State s = from.copy();
        if (choice == 1) doPut(s, column);
        if (choice == 2) doStrike(s, column);
        return s;
    }

    int rests(int one, int other, int what) {
        if (one < 0 || one > 3 || other < 0 || other > 3) return UNKNOWN;
        if (one == other || what < 0 || what > 1) return BAD;
        int[][] has = new int[3][3];
        int[][] otherHas = new int[3][3];
        for (int a = 0; a < 3; a++) {
            for (int b = 0; b < 3; b++) {
                State s = chosen(chosen(now, one, a), other, b);
                has[a][b] = worth(s, one);
                otherHas[a][b] = worth(s, other);
            }
        }
        List<Integer> all = new ArrayList<>();
        for (int a = 0; a < 3; a++) {
            for (int b = 0; b < 3; b++) {
                int best = Math.max(has[0][b], Math.max(has[1][b], has[2][b]));
                int otherBest = Arrays.stream(otherHas[a]).max().getAsInt();
                if (has[a][b] == best && otherHas[a][b] == otherBest) all.add(10 * a + b);
            }
        }
        if (what == 0) return all.size();
        return all.isEmpty() ? NONE : all.get(0);
    }

    /** In ten thousandths: every column draws one of ten lots, whether it has poles or not. */
    private int wetFrom(State s, int column, int m, int x) {
        if (column == 4) {
            State t = s.copy();
            settle(t);
            return t.count() >= m ? 1 : 0;
        }
        State lost = s.copy();
        if (lost.poles[column] > 0) lost.poles[column]--;
        return x * wetFrom(lost, column + 1, m, x) + (10 - x) * wetFrom(s, column + 1, m, x);
    }

    int wet(int m, int x, boolean upper) {
        if (m < 0 || m > 7 || x < 0 || x > 10) return BAD;
        return leastTerms(wetFrom(now, 0, m, x), 10000)[upper ? 0 : 1];
    }

    long seed(long v) {
        long was = seed;
        seed = v;
        return was;
    }

    int terms(int m) {
        if (m < 1 || m > 30) return BAD;
        State s = now.copy();
        int together = 0;
        for (int i = 0; i < m; i++) {
            seed = new java.math.BigInteger(Long.toString(seed))
                    .multiply(new java.math.BigInteger("6364136223846793005"))
                    .add(new java.math.BigInteger("1442695040888963407")).longValue();
            String wide = Long.toBinaryString(seed);
            while (wide.length() < 64) wide = "0" + wide;
            int t = (int) (Long.parseLong(wide.substring(0, 31), 2) % 16);
            if (t == 15) doRain(s);
            else if (t > 8) doStrike(s, t % 4);
            else doPut(s, t % 4);
            together += s.count();
        }
        return together;
    }

    int keep(int slot) {
        if (slot < 0 || slot > 1) return UNKNOWN;
        slots[slot] = now.copy();
        return sum(now.poles);
    }

    int again(int slot) {
        if (slot < 0 || slot > 1) return UNKNOWN;
        if (slots[slot] == null) return LATE;
        now = slots[slot].copy();
        acts.clear();
        return sum(now.poles);
    }
}
