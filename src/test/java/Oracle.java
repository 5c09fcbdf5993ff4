import java.math.BigInteger;
import java.util.ArrayDeque;
import java.util.ArrayList;
import java.util.List;

/** A second, slow reading of the document: nothing is shared with the class, so that both must err alike to agree. */
final class Oracle {
    private static final int BAD = -1, NOT = -2, FULL = -3, NONE = -4, NULL = -11, CAST = -12, INDEX = -13, SIZE = -14;

    private record State(int kind, List<Integer> line, List<Integer> right, long draw) {
        int width() {
            return right.size();
        }
    }

    private State now = new State(0, List.of(0), List.of(0), 1);
    private int p = 7;
    private ArrayDeque<State> past = new ArrayDeque<>();
    private State keptNow = null;
    private int keptPrime;
    private ArrayDeque<State> keptPast;
    private String tape = "";
    private final Object[] sheets = new Object[4];

    // ---- 1

    int prime(int q) {
        if (q > 97 || !BigInteger.valueOf(q).isProbablePrime(30) || q < 2) {
            return BAD;
        }
        if (q == p) {
            return NOT;
        }
        int was = p;
        p = q;
        List<Integer> line = new ArrayList<>();
        now.line.forEach(v -> line.add(v % q));
        List<Integer> right = new ArrayList<>();
        now.right.forEach(v -> right.add(v % q));
        now = new State(now.kind, line, right, now.draw);
        past.clear();
        return was;
    }

    int type(int letter) {
        if (letter < 32 || letter > 126) {
            return BAD;
        }
        if (tape.length() == 70) {
            return FULL;
        }
        tape += (char) letter;
        return tape.length();
    }

    int matrix() {
        String text = tape;
        tape = "";
        return new Text(text).read();
    }

    /** Goes letter by letter by what may stand next. */
    private final class Text {
        private final String text;
        private final List<Integer> line = new ArrayList<>();
        private final List<Integer> right = new ArrayList<>();

        Text(String text) {
            this.text = text;
        }

        int read() {
            int kind = -1;
            boolean behindEquals = false;
            boolean wantsNumber = false;
            int at = 0;
            while (at < text.length()) {
                char c = text.charAt(at);
                List<Integer> row = behindEquals ? right : line;
                if (c == ' ') {
                    at++;
                } else if (kind < 0) {
                    kind = "sbern".indexOf(c);
                    if (kind < 0) {
                        return -20 - at;
                    }
                    wantsNumber = true;
                    at++;
                } else if (wantsNumber) {
                    String digits = text.substring(at).replaceAll("(?s)[^0-9].*", "");
                    if (digits.isEmpty()) {
                        return -20 - at;
                    }
                    int value = Integer.parseInt(digits.substring(0, Math.min(2, digits.length())));
                    if (value >= p) {
                        return -20 - at;
                    }
                    if (digits.length() > 2) {
                        return -20 - at - 2;
                    }
                    row.add(value);
                    wantsNumber = false;
                    at += digits.length();
                } else if (c == ',' && row.size() < (behindEquals ? (line.size() + 1) / 2 : 11)) {
                    wantsNumber = true;
                    at++;
                } else if (c == '=' && !behindEquals && line.size() % 2 == 1) {
                    behindEquals = true;
                    wantsNumber = true;
                    at++;
                } else {
                    return -20 - at;
                }
            }
            int width = (line.size() + 1) / 2;
            if (kind < 0 || wantsNumber || line.size() % 2 == 0 || behindEquals && right.size() < width) {
                return -20 - text.length();
            }
            while (right.size() < width) {
                right.add(0);
            }
            now = new State(kind, line, right, now.draw);
            past.clear();
            return width;
        }
    }

    int line(int k) {
        return k < 0 || k >= now.line.size() ? BAD : now.line.get(k);
    }

    int right(int i) {
        return i < 0 || i >= now.width() ? BAD : now.right.get(i);
    }

    int entry(int i, int j) {
        int w = now.width();
        return i < 0 || j < 0 || i >= w || j >= w ? BAD : table(now.kind, now.line)[i][j];
    }

    private int[][] table(int kind, List<Integer> line) {
        int w = (line.size() + 1) / 2;
        int[][] slant = new int[w][w];
        for (int i = 0; i < w; i++) {
            for (int j = 0; j < w; j++) {
                slant[i][j] = line.get(w - 1 + i - j);
            }
        }
        int[][] made = new int[w][w];
        for (int i = 0; i < w; i++) {
            for (int j = 0; j < w; j++) {
                int even = slant[Math.max(i, j)][Math.min(i, j)];
                int[] byKind = {slant[i][j], slant[i][w - 1 - j], even, slant[Math.floorMod(i - j, w)][0],
                    i < j ? Math.floorMod(-even, p) : even};
                made[i][j] = byKind[kind];
            }
        }
        return made;
    }

    int count(int what) {
        return switch (what) {
            case 0 -> now.width();
            case 1 -> now.kind;
            case 2 -> p;
            case 3 -> rank(table(now.kind, now.line));
            case 4 -> singular();
            case 5 -> corner(now.width());
            case 6 -> law().length;
            case 7 -> past.size();
            default -> BAD;
        };
    }

    private int singular() {
        int set = 0;
        for (int k = 1; k <= now.width(); k++) {
            set += corner(k) == 0 ? 1 << k : 0;
        }
        return set;
    }

    // ---- what is done

    private void become(State state) {
        past.addLast(now);
        if (past.size() > 8) {
            past.removeFirst();
        }
        now = state;
    }

    private static List<Integer> with(List<Integer> row, int k, int v) {
        List<Integer> made = new ArrayList<>(row);
        made.set(k, v);
        return made;
    }

    int change(int k, int v) {
        if (k < 0 || k >= now.line.size() || v < 0 || v >= p) {
            return BAD;
        }
        int was = now.line.get(k);
        if (was == v) {
            return NOT;
        }
        become(new State(now.kind, with(now.line, k, v), now.right, now.draw));
        return was;
    }

    int put(int i, int v) {
        if (i < 0 || i >= now.width() || v < 0 || v >= p) {
            return BAD;
        }
        int was = now.right.get(i);
        if (was == v) {
            return NOT;
        }
        become(new State(now.kind, now.line, with(now.right, i, v), now.draw));
        return was;
    }

    int shape(int kind) {
        if (kind < 0 || kind > 4) {
            return BAD;
        }
        int was = now.kind;
        if (was == kind) {
            return NOT;
        }
        become(new State(kind, now.line, now.right, now.draw));
        return was;
    }

    int widen() {
        if (now.width() == 6) {
            return FULL;
        }
        List<Integer> line = new ArrayList<>(now.line);
        line.add(0, 0);
        line.add(0);
        List<Integer> right = new ArrayList<>(now.right);
        right.add(0);
        become(new State(now.kind, line, right, now.draw));
        return right.size();
    }

    int cut() {
        int w = now.width();
        if (w == 1) {
            return NOT;
        }
        become(new State(now.kind, now.line.subList(1, now.line.size() - 1), now.right.subList(0, w - 1), now.draw));
        return w - 1;
    }

    int turn() {
        List<Integer> line = new ArrayList<>(now.line);
        java.util.Collections.reverse(line);
        become(new State(now.kind, line, now.right, now.draw));
        return corner(now.width());
    }

    int drift(int n) {
        if (n < 1 || n > 40) {
            return BAD;
        }
        for (int t = 0; t < n; t++) {
            long draw = BigInteger.valueOf(now.draw).multiply(BigInteger.valueOf(1103515245))
                .add(BigInteger.valueOf(12345)).mod(BigInteger.ONE.shiftLeft(31)).longValue();
            int place = (int) ((draw >> 16) % now.line.size());
            become(new State(now.kind, with(now.line, place, (int) ((draw >> 8) % p)), now.right, draw));
        }
        return corner(now.width());
    }

    int undo() {
        if (past.isEmpty()) {
            return NONE;
        }
        now = past.removeLast();
        return past.size();
    }

    int seed(int v) {
        if (v < 0) {
            return BAD;
        }
        long was = now.draw;
        now = new State(now.kind, now.line, now.right, v);
        return (int) was;
    }

    // ---- 2

    /** By the first row's entries and what is left without their columns. */
    private int determinant(int[][] table, int k, int row, int columns) {
        if (row == k) {
            return 1;
        }
        int sum = 0;
        int sign = 1;
        for (int c = 0; c < k; c++) {
            if ((columns >> c & 1) == 0) {
                if (table[row][c] != 0) {
                    sum += sign * table[row][c] * determinant(table, k, row + 1, columns | 1 << c);
                }
                sign = -sign;
            }
        }
        return Math.floorMod(sum, p);
    }

    int corner(int k) {
        return k < 0 || k > now.width() ? BAD : determinant(table(now.kind, now.line), k, 0, 0);
    }

    int leap(int k) {
        if (k < 0 || k >= now.width()) {
            return BAD;
        }
        int to = k + 1;
        while (to <= now.width() && corner(to) == 0) {
            to++;
        }
        return to > now.width() ? NONE : to - k;
    }

    private int rank(int[][] told) {
        int[][] rows = new int[told.length][];
        for (int r = 0; r < told.length; r++) {
            rows[r] = told[r].clone();
        }
        int rank = 0;
        for (int c = 0; told.length > 0 && c < told[0].length; c++) {
            int from = rank;
            while (from < rows.length && rows[from][c] == 0) {
                from++;
            }
            if (from == rows.length) {
                continue;
            }
            int[] kept = rows[from];
            rows[from] = rows[rank];
            rows[rank] = kept;
            for (int r = rank + 1; r < rows.length; r++) {
                int a = kept[c];
                int b = rows[r][c];
                for (int x = 0; x < kept.length; x++) {
                    rows[r][x] = Math.floorMod(rows[r][x] * a - kept[x] * b, p);
                }
            }
            rank++;
        }
        return rank;
    }

    /** The least solution, number by number: the least one with which the rest can still be solved; null: none. */
    private int[] least(int[][] rows, int[] sides, int unknowns) {
        int[] rest = sides.clone();
        if (!solvable(rows, rest, 0, unknowns)) {
            return null;
        }
        int[] x = new int[unknowns];
        for (int u = 0; u < unknowns; u++) {
            int[] tried = null;
            for (int v = 0; v < p && tried == null; v++) {
                tried = new int[rest.length];
                for (int r = 0; r < rest.length; r++) {
                    tried[r] = Math.floorMod(rest[r] - rows[r][u] * v, p);
                }
                x[u] = v;
                tried = solvable(rows, tried, u + 1, unknowns) ? tried : null;
            }
            rest = tried;
        }
        return x;
    }

    private boolean solvable(int[][] rows, int[] sides, int from, int unknowns) {
        int[][] plain = new int[rows.length][unknowns - from];
        int[][] more = new int[rows.length][unknowns - from + 1];
        for (int r = 0; r < rows.length; r++) {
            for (int u = from; u < unknowns; u++) {
                plain[r][u - from] = rows[r][u];
                more[r][u - from] = rows[r][u];
            }
            more[r][unknowns - from] = sides[r];
        }
        return rank(plain) == rank(more);
    }

    private int[] first() {
        int[] sides = now.right.stream().mapToInt(Integer::intValue).toArray();
        return least(table(now.kind, now.line), sides, now.width());
    }

    private long ways() {
        return first() == null ? 0
            : BigInteger.valueOf(p).pow(now.width() - rank(table(now.kind, now.line))).longValueExact();
    }

    long solved(int i) {
        if (i < -1 || i >= now.width()) {
            return BAD;
        }
        if (i == -1) {
            return ways();
        }
        int[] first = first();
        return first == null ? NONE : first[i];
    }

    /** By the determinant of what is left without a row and a column. */
    int inverse(int i, int j) {
        int w = now.width();
        if (i < 0 || j < 0 || i >= w || j >= w) {
            return BAD;
        }
        int all = corner(w);
        if (all == 0) {
            return NONE;
        }
        int[][] table = table(now.kind, now.line);
        int[][] less = new int[w - 1][w - 1];
        for (int r = 0; r < w - 1; r++) {
            for (int c = 0; c < w - 1; c++) {
                less[r][c] = table[r < j ? r : r + 1][c < i ? c : c + 1];
            }
        }
        int part = determinant(less, w - 1, 0, 0) * ((i + j) % 2 == 0 ? 1 : -1);
        int back = BigInteger.valueOf(all).modInverse(BigInteger.valueOf(p)).intValue();
        return Math.floorMod(part * back, p);
    }

    private List<Integer> zeroing(int k, boolean zero) {
        List<Integer> found = new ArrayList<>();
        for (int v = 0; v < p; v++) {
            if (determinant(table(now.kind, with(now.line, k, v)), now.width(), 0, 0) == 0 == zero) {
                found.add(v);
            }
        }
        return found;
    }

    int weak(int k, int what) {
        if (k < 0 || k >= now.line.size() || what < 0 || what > 1) {
            return BAD;
        }
        List<Integer> found = zeroing(k, true);
        return what == 0 ? found.size() : found.isEmpty() ? NONE : found.get(0);
    }

    int mend(int what) {
        if (what < 0 || what > 1) {
            return BAD;
        }
        if (corner(now.width()) != 0) {
            return NOT;
        }
        for (int k = 0; k < now.line.size(); k++) {
            List<Integer> found = zeroing(k, false);
            if (!found.isEmpty()) {
                return what == 0 ? k : found.get(0);
            }
        }
        return NONE;
    }

    private int[] law() {
        int n = now.line.size();
        for (int length = 0; length <= n; length++) {
            int[][] rows = new int[n - length][length];
            int[] sides = new int[n - length];
            for (int t = length; t < n; t++) {
                sides[t - length] = now.line.get(t);
                for (int m = 1; m <= length; m++) {
                    rows[t - length][m - 1] = now.line.get(t - m);
                }
            }
            int[] law = least(rows, sides, length);
            if (law != null) {
                return law;
            }
        }
        throw new IllegalStateException();
    }

    int term(int k) {
        int[] law = law();
        return k < 1 || k > law.length ? BAD : law[k - 1];
    }

    int next(int k) {
        if (k < 0 || k > 20) {
            return BAD;
        }
        int[] law = law();
        List<Integer> row = new ArrayList<>(now.line);
        for (int t = 0; t <= k; t++) {
            int sum = 0;
            for (int m = 0; m < law.length; m++) {
                sum += law[m] * row.get(row.size() - 1 - m);
            }
            row.add(sum % p);
        }
        return row.get(row.size() - 1);
    }

    long wiped(int c, int what) {
        if (c < 0 || c > 10 || what < 0 || what > 1) {
            return BAD;
        }
        int n = now.line.size();
        BigInteger sum = BigInteger.ZERO;
        for (int set = 0; set < 1 << n; set++) {
            List<Integer> row = new ArrayList<>(now.line);
            BigInteger odds = BigInteger.ONE;
            for (int k = 0; k < n; k++) {
                boolean gone = (set >> k & 1) == 1;
                odds = odds.multiply(BigInteger.valueOf(gone ? c : 10 - c));
                row.set(k, gone ? 0 : row.get(k));
            }
            if (odds.signum() > 0 && determinant(table(now.kind, row), now.width(), 0, 0) == 0) {
                sum = sum.add(odds);
            }
        }
        BigInteger below = BigInteger.TEN.pow(n);
        BigInteger shared = sum.gcd(below);
        return (what == 0 ? sum : below).divide(shared).longValueExact();
    }

    int image() {
        keptNow = now;
        keptPrime = p;
        keptPast = new ArrayDeque<>(past);
        return 1;
    }

    int restore() {
        if (keptNow == null) {
            return NONE;
        }
        now = keptNow;
        p = keptPrime;
        past = new ArrayDeque<>(keptPast);
        return 1;
    }

    // ---- 3

    private static int laneOf(Object row) {
        return row instanceof byte[] ? 0 : row instanceof short[] ? 1 : row instanceof int[] ? 2 : 3;
    }

    private int refusal(int s, int lane, int i, int n) {
        if (s < 0 || s > 3 || lane < 0 || lane > 3) {
            return BAD;
        }
        if (sheets[s] == null) {
            return NULL;
        }
        if (laneOf(sheets[s]) != lane) {
            return CAST;
        }
        return i < 0 || (long) i + n > java.lang.reflect.Array.getLength(sheets[s]) ? INDEX : 0;
    }

    private long get(int s, int i) {
        return java.lang.reflect.Array.getLong(sheets[s], i);
    }

    private void set(int s, int i, long v) {
        switch (laneOf(sheets[s])) {
            case 0 -> ((byte[]) sheets[s])[i] = (byte) v;
            case 1 -> ((short[]) sheets[s])[i] = (short) v;
            case 2 -> ((int[]) sheets[s])[i] = (int) v;
            default -> ((long[]) sheets[s])[i] = v;
        }
    }

    private long[] times(int kind, int s, int i) {
        int[][] table = table(kind, now.line);
        long[] made = new long[now.width()];
        for (int r = 0; r < made.length; r++) {
            for (int c = 0; c < made.length; c++) {
                made[r] = (made[r] + table[r][c] * get(s, i + c)) % p;
            }
        }
        return made;
    }

    private boolean areNumbers(int s, int i, int n) {
        for (int x = i; x < i + n; x++) {
            if (get(s, x) < 0 || get(s, x) >= p) {
                return false;
            }
        }
        return true;
    }

    int came(int s, int lane, int i) {
        int w = now.width();
        int refusal = refusal(s, lane, i, 2 * w);
        if (refusal != 0) {
            return refusal;
        }
        int set = 0;
        for (int kind = 0; kind < 5 && areNumbers(s, i, 2 * w); kind++) {
            long[] made = times(kind, s, i);
            boolean same = true;
            for (int r = 0; r < w; r++) {
                same &= made[r] == get(s, i + w + r);
            }
            set += same ? 1 << kind : 0;
        }
        return set;
    }

    int apply(int s, int lane, int i) {
        int w = now.width();
        int refusal = refusal(s, lane, i, 2 * w);
        if (refusal != 0) {
            return refusal;
        }
        if (!areNumbers(s, i, w)) {
            return NOT;
        }
        long[] made = times(now.kind, s, i);
        for (int r = 0; r < w; r++) {
            set(s, i + w + r, made[r]);
        }
        return 1;
    }

    int film(int s, int lane, int i) {
        int refusal = refusal(s, lane, i, now.width());
        if (refusal != 0) {
            return refusal;
        }
        int[] first = first();
        if (first == null) {
            return NONE;
        }
        for (int c = 0; c < first.length; c++) {
            set(s, i + c, first[c]);
        }
        return (int) Math.min(9, ways());
    }

    int sheet(int s, int lane, int n) {
        if (s < 0 || s > 3 || lane < 0 || lane > 3 || n > 24) {
            return BAD;
        }
        if (n < 0) {
            return SIZE;
        }
        sheets[s] = lane == 0 ? new byte[n] : lane == 1 ? new short[n] : lane == 2 ? (Object) new int[n] : new long[n];
        return n;
    }

    int drop(int s) {
        if (s < 0 || s > 3) {
            return BAD;
        }
        if (sheets[s] == null) {
            return NULL;
        }
        int had = java.lang.reflect.Array.getLength(sheets[s]);
        sheets[s] = null;
        return had;
    }

    int item(int s, int lane, int i, long v) {
        int refusal = refusal(s, lane, i, 1);
        if (refusal != 0) {
            return refusal;
        }
        set(s, i, v);
        return 1;
    }

    int copy(int from, int i, int to, int j, int n) {
        if (from < 0 || from > 3 || to < 0 || to > 3) {
            return BAD;
        }
        try {
            System.arraycopy(sheets[from], i, sheets[to], j, n);
        } catch (NullPointerException e) {
            return NULL;
        } catch (ArrayStoreException e) {
            return CAST;
        } catch (IndexOutOfBoundsException e) {
            return INDEX;
        }
        return n;
    }
}
