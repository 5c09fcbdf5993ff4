/** Matrices of one stroke over a small prime, told by one row; see README.md for how to use them. */
public final class LeanDiagonals {
    public static final int BAD = -1, NOT = -2, FULL = -3, NONE = -4, NULL = -11, CAST = -12, INDEX = -13, SIZE = -14;

    private static final int SLANT = 0, BACK = 1, EVEN = 2, ROUND = 3, SIGN = 4, KINDS = 5;
    private static final int WIDEST = 6, LONGEST = 2 * WIDEST - 1;
    private static final int GREATEST_PRIME = 97, FIRST_PRIME = 7;
    private static final int REMEMBERED = 8, MOST_TURNS = 40, MOST_NEXT = 20, ODDS = 10;
    private static final int TAPE_ROOM = 70, FIRST_FAULT = -20;
    private static final int SHEETS = 4, LANES = 4, SHEET_ROOM = 24, WAYS_SHOWN = 9;

    private final Book book = new Book();
    private final Book kept = new Book();
    private boolean isKept = false;
    private final Reader reader = new Reader();
    private final Grid grid = new Grid();
    private final Setting trial = new Setting();
    private final Wipes wipes = new Wipes();
    private final int[] onward = new int[LONGEST + MOST_NEXT + 1];
    private final int[] given = new int[WIDEST];
    private final int[] told = new int[WIDEST];
    private final Sheet[] sheets = new Sheet[SHEETS];

    public LeanDiagonals() {
        for (int s = 0; s < SHEETS; s++) {
            sheets[s] = new Sheet();
        }
    }

    // ---- 1 the matrix

    public int prime(int p) {
        if (!isPrime(p)) {
            return BAD;
        }
        int before = book.prime;
        if (p == before) {
            return NOT;
        }
        book.prime = p;
        book.now.leaveOver(p);
        book.forget();
        return before;
    }

    public int type(int letter) {
        if (letter < 32 || letter > 126) {
            return BAD;
        }
        return reader.takeLetter(letter) ? reader.length : FULL;
    }

    public int matrix() {
        int fault = reader.readMatrix(book.prime);
        reader.length = 0;
        if (fault != 0) {
            return fault;
        }
        int draw = book.now.draw;
        book.now.takeFrom(reader.read);
        book.now.draw = draw;
        book.forget();
        return book.now.width;
    }

    public int line(int k) {
        return isPlace(k) ? book.now.row[k] : BAD;
    }

    public int right(int i) {
        return isWithin(i) ? book.now.side[i] : BAD;
    }

    public int entry(int i, int j) {
        if (!isWithin(i) || !isWithin(j)) {
            return BAD;
        }
        return book.now.cellAt(book.now.kind, i, j, book.prime);
    }

    public int count(int what) {
        switch (what) {
            case 0:
                return book.now.width;
            case 1:
                return book.now.kind;
            case 2:
                return book.prime;
            case 3:
                return rankOfMatrix();
            case 4:
                return singularCorners();
            case 5:
                return wholeCorner();
            case 6:
                return findLaw();
            case 7:
                return book.known;
            default:
                return BAD;
        }
    }

    // ---- what is done

    public int change(int k, int v) {
        if (!isPlace(k) || !isNumber(v)) {
            return BAD;
        }
        int before = book.now.row[k];
        if (v == before) {
            return NOT;
        }
        book.remember();
        book.now.row[k] = v;
        return before;
    }

    public int put(int i, int v) {
        if (!isWithin(i) || !isNumber(v)) {
            return BAD;
        }
        int before = book.now.side[i];
        if (v == before) {
            return NOT;
        }
        book.remember();
        book.now.side[i] = v;
        return before;
    }

    public int shape(int kind) {
        if (kind < 0 || kind >= KINDS) {
            return BAD;
        }
        int before = book.now.kind;
        if (kind == before) {
            return NOT;
        }
        book.remember();
        book.now.kind = kind;
        return before;
    }

    public int widen() {
        if (book.now.width >= WIDEST) {
            return FULL;
        }
        book.remember();
        book.now.addBorder();
        return book.now.width;
    }

    public int cut() {
        if (book.now.width <= 1) {
            return NOT;
        }
        book.remember();
        book.now.dropBorder();
        return book.now.width;
    }

    public int turn() {
        book.remember();
        book.now.reverseRow();
        return wholeCorner();
    }

    public int drift(int n) {
        if (n < 1 || n > MOST_TURNS) {
            return BAD;
        }
        for (int t = 0; t < n; t++) {
            book.remember();
            book.now.driftOnce(book.prime);
        }
        return wholeCorner();
    }

    public int undo() {
        return book.stepBack() ? book.known : NONE;
    }

    public int seed(int v) {
        if (v < 0) {
            return BAD;
        }
        int before = book.now.draw;
        book.now.draw = v;
        return before;
    }

    // ---- 2 what is known of it

    public int corner(int k) {
        if (k < 0 || k > book.now.width) {
            return BAD;
        }
        return cornerOf(book.now, k);
    }

    public int leap(int k) {
        if (!isWithin(k)) {
            return BAD;
        }
        for (int size = k + 1; size <= book.now.width; size++) {
            if (cornerOf(book.now, size) != 0) {
                return size - k;
            }
        }
        return NONE;
    }

    public long solved(int i) {
        if (i != -1 && !isWithin(i)) {
            return BAD;
        }
        long ways = solveMatrix();
        if (i == -1) {
            return ways;
        }
        return ways == 0 ? NONE : grid.answer[i];
    }

    public int inverse(int i, int j) {
        if (!isWithin(i) || !isWithin(j)) {
            return BAD;
        }
        if (wholeCorner() == 0) {
            return NONE;
        }
        int width = book.now.width;
        grid.fill(book.now, book.prime, width);
        for (int r = 0; r < width; r++) {
            grid.cells[r][width] = r == j ? 1 : 0;
        }
        grid.solveLeast(width, width);
        return grid.answer[i];
    }

    public int weak(int k, int what) {
        if (!isPlace(k) || !isHalf(what)) {
            return BAD;
        }
        trial.takeFrom(book.now);
        int many = 0;
        int least = NONE;
        for (int v = 0; v < book.prime; v++) {
            trial.row[k] = v;
            if (cornerOf(trial, trial.width) == 0) {
                least = many == 0 ? v : least;
                many++;
            }
        }
        return what == 0 ? many : least;
    }

    public int mend(int what) {
        if (!isHalf(what)) {
            return BAD;
        }
        if (wholeCorner() != 0) {
            return NOT;
        }
        for (int k = 0; k < book.now.rowLength(); k++) {
            int v = leastMender(k);
            if (v != NONE) {
                return what == 0 ? k : v;
            }
        }
        return NONE;
    }

    public int term(int k) {
        int length = findLaw();
        return k < 1 || k > length ? BAD : grid.answer[k - 1];
    }

    public int next(int k) {
        if (k < 0 || k > MOST_NEXT) {
            return BAD;
        }
        int law = findLaw();
        int length = book.now.rowLength();
        System.arraycopy(book.now.row, 0, onward, 0, length);
        for (int t = length; t <= length + k; t++) {
            int sum = 0;
            for (int m = 1; m <= law; m++) {
                sum += grid.answer[m - 1] * onward[t - m];
            }
            onward[t] = sum % book.prime;
        }
        return onward[length + k];
    }

    public long wiped(int c, int what) {
        if (c < 0 || c > ODDS || !isHalf(what)) {
            return BAD;
        }
        // Counting tries up to 2048 rows, so what was counted is used as long as the matrix is the same one.
        if (!wipes.isOf(book.now, book.prime)) {
            countWipes();
        }
        long above = wipes.weighted(c);
        long below = power(ODDS, wipes.live);
        long shared = greatestShared(above, below);
        return (what == 0 ? above : below) / shared;
    }

    public int image() {
        kept.takeFrom(book);
        isKept = true;
        return 1;
    }

    public int restore() {
        if (!isKept) {
            return NONE;
        }
        book.takeFrom(kept);
        return 1;
    }

    // ---- 3 sheets

    public int came(int sheet, int lane, int i) {
        int width = book.now.width;
        int refusal = refusalOf(sheet, lane, i, 2 * width);
        if (refusal != 0) {
            return refusal;
        }
        if (!readNumbers(sheets[sheet], i, given) || !readNumbers(sheets[sheet], i + width, told)) {
            return 0;
        }
        int kinds = 0;
        for (int kind = 0; kind < KINDS; kind++) {
            kinds |= comesBy(kind) ? 1 << kind : 0;
        }
        return kinds;
    }

    public int apply(int sheet, int lane, int i) {
        int width = book.now.width;
        int refusal = refusalOf(sheet, lane, i, 2 * width);
        if (refusal != 0) {
            return refusal;
        }
        if (!readNumbers(sheets[sheet], i, given)) {
            return NOT;
        }
        for (int r = 0; r < width; r++) {
            sheets[sheet].items[i + width + r] = rowTimesGiven(book.now.kind, r);
        }
        return 1;
    }

    public int film(int sheet, int lane, int i) {
        int width = book.now.width;
        int refusal = refusalOf(sheet, lane, i, width);
        if (refusal != 0) {
            return refusal;
        }
        long ways = solveMatrix();
        if (ways == 0) {
            return NONE;
        }
        for (int c = 0; c < width; c++) {
            sheets[sheet].items[i + c] = grid.answer[c];
        }
        return (int) Math.min(ways, WAYS_SHOWN);
    }

    public int sheet(int sheet, int lane, int n) {
        if (!isSheet(sheet) || !isLane(lane) || n > SHEET_ROOM) {
            return BAD;
        }
        if (n < 0) {
            return SIZE;
        }
        sheets[sheet].begin(lane, n);
        return n;
    }

    public int drop(int sheet) {
        if (!isSheet(sheet)) {
            return BAD;
        }
        if (sheets[sheet].isMissing()) {
            return NULL;
        }
        int had = sheets[sheet].length;
        sheets[sheet].lose();
        return had;
    }

    public int item(int sheet, int lane, int i, long v) {
        int refusal = refusalOf(sheet, lane, i, 1);
        if (refusal != 0) {
            return refusal;
        }
        sheets[sheet].items[i] = lowestBits(lane, v);
        return 1;
    }

    public int copy(int from, int i, int to, int j, int n) {
        if (!isSheet(from) || !isSheet(to)) {
            return BAD;
        }
        Sheet source = sheets[from];
        Sheet target = sheets[to];
        if (source.isMissing() || target.isMissing()) {
            return NULL;
        }
        if (source.lane != target.lane) {
            return CAST;
        }
        if (!source.holds(i, n) || !target.holds(j, n)) {
            return INDEX;
        }
        System.arraycopy(source.items, i, target.items, j, n);
        return n;
    }

    // ---- tests of arguments

    private static boolean isPrime(int p) {
        if (p < 2 || p > GREATEST_PRIME) {
            return false;
        }
        for (int d = 2; d * d <= p; d++) {
            if (p % d == 0) {
                return false;
            }
        }
        return true;
    }

    private boolean isPlace(int k) {
        return k >= 0 && k < book.now.rowLength();
    }

    private boolean isWithin(int i) {
        return i >= 0 && i < book.now.width;
    }

    private boolean isNumber(long v) {
        return v >= 0 && v < book.prime;
    }

    private static boolean isHalf(int what) {
        return what == 0 || what == 1;
    }

    private static boolean isSheet(int s) {
        return s >= 0 && s < SHEETS;
    }

    private static boolean isLane(int lane) {
        return lane >= 0 && lane < LANES;
    }

    /** What refuses n items of a SHEET from item i on, or 0. */
    private int refusalOf(int s, int lane, int i, int n) {
        if (!isSheet(s) || !isLane(lane)) {
            return BAD;
        }
        if (sheets[s].isMissing()) {
            return NULL;
        }
        if (sheets[s].lane != lane) {
            return CAST;
        }
        return sheets[s].holds(i, n) ? 0 : INDEX;
    }

    // ---- corners, rank, solutions

    private int cornerOf(Setting setting, int size) {
        grid.fill(setting, book.prime, size);
        return grid.determinant(size);
    }

    private int wholeCorner() {
        return cornerOf(book.now, book.now.width);
    }

    private int singularCorners() {
        int set = 0;
        for (int size = 1; size <= book.now.width; size++) {
            set |= cornerOf(book.now, size) == 0 ? 1 << size : 0;
        }
        return set;
    }

    private int rankOfMatrix() {
        int width = book.now.width;
        grid.fill(book.now, book.prime, width);
        grid.clearColumn(width, width);
        return grid.solveLeast(width, width);
    }

    /** WAYS; where there are some, the grid's answer is FIRST. */
    private long solveMatrix() {
        int width = book.now.width;
        grid.fill(book.now, book.prime, width);
        for (int r = 0; r < width; r++) {
            grid.cells[r][width] = book.now.side[r];
        }
        int rank = grid.solveLeast(width, width);
        return rank < 0 ? 0 : power(book.prime, width - rank);
    }

    /** The least number that, put at place k alone, makes the whole CORNER other than 0, or NONE. */
    private int leastMender(int k) {
        trial.takeFrom(book.now);
        for (int v = 0; v < book.prime; v++) {
            trial.row[k] = v;
            if (cornerOf(trial, trial.width) != 0) {
                return v;
            }
        }
        return NONE;
    }

    // ---- the law

    /** L of the LAW; the grid's answer is c1 .. cL then. */
    private int findLaw() {
        int most = book.now.rowLength();
        for (int length = 0; length < most; length++) {
            if (fitsLaw(length)) {
                return length;
            }
        }
        // No number is left to be told by a LAW as long as THE LINE, so the least one is all 0.
        for (int m = 0; m < most; m++) {
            grid.answer[m] = 0;
        }
        return most;
    }

    private boolean fitsLaw(int length) {
        int[] row = book.now.row;
        int rows = book.now.rowLength() - length;
        grid.usePrime(book.prime);
        for (int r = 0; r < rows; r++) {
            for (int m = 0; m < length; m++) {
                grid.cells[r][m] = row[r + length - 1 - m];
            }
            grid.cells[r][length] = row[r + length];
        }
        return grid.solveLeast(rows, length) >= 0;
    }

    // ---- odds

    private void countWipes() {
        trial.takeFrom(book.now);
        wipes.begin(book.now, book.prime);
        for (int set = 0; set < 1 << wipes.live; set++) {
            for (int b = 0; b < wipes.live; b++) {
                int place = wipes.places[b];
                trial.row[place] = (set >> b & 1) == 1 ? 0 : book.now.row[place];
            }
            if (cornerOf(trial, trial.width) == 0) {
                wipes.zeros[Integer.bitCount(set)]++;
            }
        }
    }

    private static long power(long base, int exponent) {
        long product = 1;
        for (int e = 0; e < exponent; e++) {
            product *= base;
        }
        return product;
    }

    /** The greatest number that divides both, for a at or above 0 and b above 0: it is never 0. */
    private static long greatestShared(long a, long b) {
        long greater = b;
        long lesser = a;
        // Euclid takes fewer than 100 steps for longs.
        for (int step = 0; step < 100 && lesser != 0; step++) {
            long rest = greater % lesser;
            greater = lesser;
            lesser = rest;
        }
        return greater;
    }

    // ---- what comes of an X

    /** Takes WIDTH items as numbers; false if one is none. */
    private boolean readNumbers(Sheet from, int i, int[] into) {
        for (int c = 0; c < book.now.width; c++) {
            if (!isNumber(from.items[i + c])) {
                return false;
            }
            into[c] = (int) from.items[i + c];
        }
        return true;
    }

    private int rowTimesGiven(int kind, int r) {
        int sum = 0;
        for (int c = 0; c < book.now.width; c++) {
            sum += book.now.cellAt(kind, r, c, book.prime) * given[c];
        }
        return sum % book.prime;
    }

    private boolean comesBy(int kind) {
        for (int r = 0; r < book.now.width; r++) {
            if (rowTimesGiven(kind, r) != told[r]) {
                return false;
            }
        }
        return true;
    }

    private static long lowestBits(int lane, long v) {
        switch (lane) {
            case 0:
                return (byte) v;
            case 1:
                return (short) v;
            case 2:
                return (int) v;
            default:
                return v;
        }
    }

    /** What an undo brings back: THE MATRIX, THE RIGHT and THE DRAW. */
    private static final class Setting {
        int width = 1;
        int kind = SLANT;
        int draw = 1;
        final int[] row = new int[LONGEST];
        final int[] side = new int[WIDEST];

        int rowLength() {
            return 2 * width - 1;
        }

        void takeFrom(Setting other) {
            width = other.width;
            kind = other.kind;
            draw = other.draw;
            System.arraycopy(other.row, 0, row, 0, LONGEST);
            System.arraycopy(other.side, 0, side, 0, WIDEST);
        }

        int cellAt(int asKind, int i, int j, int prime) {
            int value = row[placeAt(asKind, i, j)];
            return asKind == SIGN && i < j && value != 0 ? prime - value : value;
        }

        private int placeAt(int asKind, int i, int j) {
            int middle = width - 1;
            switch (asKind) {
                case BACK:
                    return middle + i - (width - 1 - j);
                case EVEN:
                case SIGN:
                    return middle + Math.abs(i - j);
                case ROUND:
                    return middle + (i < j ? i - j + width : i - j);
                default:
                    return middle + i - j;
            }
        }

        void leaveOver(int prime) {
            for (int k = 0; k < rowLength(); k++) {
                row[k] %= prime;
            }
            for (int i = 0; i < width; i++) {
                side[i] %= prime;
            }
        }

        void addBorder() {
            int length = rowLength();
            System.arraycopy(row, 0, row, 1, length);
            row[0] = 0;
            row[length + 1] = 0;
            side[width] = 0;
            width++;
        }

        void dropBorder() {
            System.arraycopy(row, 1, row, 0, rowLength() - 2);
            width--;
        }

        void reverseRow() {
            int last = rowLength() - 1;
            for (int k = 0; k < last - k; k++) {
                int value = row[k];
                row[k] = row[last - k];
                row[last - k] = value;
            }
        }

        void driftOnce(int prime) {
            draw = (int) (draw * 1103515245L + 12345L & 0x7FFFFFFFL);
            row[draw / 65536 % rowLength()] = draw / 256 % prime;
        }
    }

    /** All that an IMAGE keeps: THE PRIME, the setting, and the settings that may come back. */
    private static final class Book {
        int prime = FIRST_PRIME;
        int known = 0;
        final Setting now = new Setting();
        private int oldest = 0;
        private final Setting[] past = new Setting[REMEMBERED];

        Book() {
            for (int slot = 0; slot < REMEMBERED; slot++) {
                past[slot] = new Setting();
            }
        }

        void remember() {
            past[(oldest + known) % REMEMBERED].takeFrom(now);
            if (known < REMEMBERED) {
                known++;
            } else {
                oldest = (oldest + 1) % REMEMBERED;
            }
        }

        boolean stepBack() {
            if (known == 0) {
                return false;
            }
            known--;
            now.takeFrom(past[(oldest + known) % REMEMBERED]);
            return true;
        }

        void forget() {
            known = 0;
        }

        void takeFrom(Book other) {
            prime = other.prime;
            known = other.known;
            oldest = other.oldest;
            now.takeFrom(other.now);
            for (int slot = 0; slot < REMEMBERED; slot++) {
                past[slot].takeFrom(other.past[slot]);
            }
        }
    }

    /** Rows of equations by THE PRIME: their determinant, or their least solution. */
    private static final class Grid {
        final int[][] cells = new int[LONGEST][LONGEST + 1];
        final int[] answer = new int[LONGEST];
        private final int[] inverses = new int[GREATEST_PRIME];
        private int prime = 2;

        Grid() {
            inverses[1] = 1;
        }

        void usePrime(int p) {
            if (p == prime) {
                return;
            }
            prime = p;
            for (int a = 2; a < p; a++) {
                inverses[a] = (p - p / a) * inverses[p % a] % p;
            }
        }

        void fill(Setting setting, int p, int size) {
            usePrime(p);
            for (int i = 0; i < size; i++) {
                for (int j = 0; j < size; j++) {
                    cells[i][j] = setting.cellAt(setting.kind, i, j, p);
                }
            }
        }

        void clearColumn(int column, int rows) {
            for (int r = 0; r < rows; r++) {
                cells[r][column] = 0;
            }
        }

        /** The determinant of the first rows and columns, which are used up by it. */
        int determinant(int size) {
            int product = 1;
            for (int c = 0; c < size; c++) {
                if (!findPivot(c, c, size, size)) {
                    return 0;
                }
                product = product * cells[c][c] % prime;
                int scale = inverses[cells[c][c]];
                for (int below = c + 1; below < size; below++) {
                    takeAway(below, c, cells[below][c] * scale % prime, c, size);
                }
            }
            return product;
        }

        /**
         * The rank of the equations whose right sides stand in the column behind the unknowns, or -1 if they have
         * no solution. The last unknowns are told by the earlier ones, so that 0 for all that are free is least.
         */
        int solveLeast(int rows, int unknowns) {
            int rank = 0;
            for (int c = unknowns - 1; c >= 0; c--) {
                answer[c] = -1;
                if (findPivot(c, rank, rows, unknowns + 1)) {
                    clearOthers(rank, c, rows, unknowns);
                    answer[c] = rank;
                    rank++;
                }
            }
            for (int r = rank; r < rows; r++) {
                if (cells[r][unknowns] != 0) {
                    return -1;
                }
            }
            for (int c = 0; c < unknowns; c++) {
                answer[c] = answer[c] < 0 ? 0 : cells[answer[c]][unknowns];
            }
            return rank;
        }

        private void clearOthers(int pivotRow, int column, int rows, int unknowns) {
            int scale = inverses[cells[pivotRow][column]];
            for (int c = 0; c <= unknowns; c++) {
                cells[pivotRow][c] = cells[pivotRow][c] * scale % prime;
            }
            for (int r = 0; r < rows; r++) {
                if (r != pivotRow) {
                    takeAway(r, pivotRow, cells[r][column], 0, unknowns + 1);
                }
            }
        }

        /**
         * Makes the cell of the row in the column other than 0, if one below it is so. The lower row is added, not
         * swapped, since that leaves the determinant's sign alone.
         */
        private boolean findPivot(int column, int row, int rows, int columns) {
            for (int r = row; r < rows; r++) {
                if (cells[r][column] != 0) {
                    if (r != row) {
                        takeAway(row, r, prime - 1, 0, columns);
                    }
                    return true;
                }
            }
            return false;
        }

        private void takeAway(int row, int other, int times, int from, int to) {
            if (times == 0) {
                return;
            }
            int[] target = cells[row];
            int[] source = cells[other];
            // Adding what is missing to THE PRIME keeps every sum at or above 0.
            int added = prime - times;
            for (int c = from; c < to; c++) {
                target[c] = (target[c] + added * source[c]) % prime;
            }
        }
    }

    /** How many sets of wiped places make the whole CORNER 0, by how many places they have. */
    private static final class Wipes {
        final long[] zeros = new long[LONGEST + 1];
        final int[] places = new int[LONGEST];
        int live = 0;
        private int prime = 0;
        private final Setting counted = new Setting();

        boolean isOf(Setting setting, int p) {
            if (p != prime || setting.width != counted.width || setting.kind != counted.kind) {
                return false;
            }
            for (int k = 0; k < setting.rowLength(); k++) {
                if (setting.row[k] != counted.row[k]) {
                    return false;
                }
            }
            return true;
        }

        /** Only places that stand in the matrix and are not 0 matter: the others leave the odds as they are. */
        void begin(Setting setting, int p) {
            prime = p;
            counted.takeFrom(setting);
            live = 0;
            boolean usesAll = setting.kind == SLANT || setting.kind == BACK;
            for (int k = usesAll ? 0 : setting.width - 1; k < setting.rowLength(); k++) {
                if (setting.row[k] != 0) {
                    places[live] = k;
                    live++;
                }
            }
            for (int w = 0; w <= LONGEST; w++) {
                zeros[w] = 0;
            }
        }

        long weighted(int c) {
            long sum = 0;
            for (int w = 0; w <= live; w++) {
                sum += zeros[w] * power(c, w) * power(ODDS - c, live - w);
            }
            return sum;
        }
    }

    /** THE TAPE, and the MATRIX that it tells. */
    private static final class Reader {
        int length = 0;
        final Setting read = new Setting();
        private final int[] tape = new int[TAPE_ROOM];
        private int place = 0;
        private int prime = 0;
        private int number = 0;

        boolean takeLetter(int letter) {
            if (length >= TAPE_ROOM) {
                return false;
            }
            tape[length] = letter;
            length++;
            return true;
        }

        /** 0, or the FAULT. */
        int readMatrix(int p) {
            prime = p;
            place = 0;
            skipBlanks();
            read.kind = kindOf(letterHere());
            if (read.kind < 0) {
                return faultHere();
            }
            place++;
            int fault = readRow();
            if (fault != 0) {
                return fault;
            }
            clearSide();
            if (letterHere() == '=') {
                place++;
                fault = readSide();
            }
            return fault != 0 || letterHere() < 0 ? fault : faultHere();
        }

        /** Reads THE LINE, up to the = or the end behind it. */
        private int readRow() {
            int many = 0;
            boolean more = true;
            while (more && many < LONGEST) {
                int fault = readNumber();
                if (fault != 0) {
                    return fault;
                }
                read.row[many] = number;
                many++;
                more = letterHere() == ',' && many < LONGEST;
                place += more ? 1 : 0;
            }
            if (many % 2 == 0) {
                return faultHere();
            }
            read.width = (many + 1) / 2;
            return 0;
        }

        private int readSide() {
            for (int i = 0; i < read.width; i++) {
                if (i > 0) {
                    if (letterHere() != ',') {
                        return faultHere();
                    }
                    place++;
                }
                int fault = readNumber();
                if (fault != 0) {
                    return fault;
                }
                read.side[i] = number;
            }
            return 0;
        }

        private void clearSide() {
            for (int i = 0; i < WIDEST; i++) {
                read.side[i] = 0;
            }
        }

        /** Reads a number, and the blanks ahead of it and behind it. */
        private int readNumber() {
            skipBlanks();
            int first = place;
            if (!isDigitHere()) {
                return faultHere();
            }
            number = 0;
            for (int digit = 0; digit < 2 && isDigitHere(); digit++) {
                number = 10 * number + letterHere() - '0';
                place++;
            }
            if (number >= prime) {
                return FIRST_FAULT - first;
            }
            if (isDigitHere()) {
                return faultHere();
            }
            skipBlanks();
            return 0;
        }

        private void skipBlanks() {
            while (place < length && letterHere() == ' ') {
                place++;
            }
        }

        private boolean isDigitHere() {
            return letterHere() >= '0' && letterHere() <= '9';
        }

        /** The letter at the place, or -1 at the end. */
        private int letterHere() {
            return place >= 0 && place < length ? tape[place] : -1;
        }

        private int faultHere() {
            return FIRST_FAULT - place;
        }

        private static int kindOf(int letter) {
            switch (letter) {
                case 's':
                    return SLANT;
                case 'b':
                    return BACK;
                case 'e':
                    return EVEN;
                case 'r':
                    return ROUND;
                case 'n':
                    return SIGN;
                default:
                    return -1;
            }
        }
    }

    /** Nothing, or a row of a LANE; longs hold the items of each LANE, cut to its bits when they come. */
    private static final class Sheet {
        private static final int MISSING = -1;
        int lane = MISSING;
        int length = 0;
        final long[] items = new long[SHEET_ROOM];

        boolean isMissing() {
            return lane == MISSING;
        }

        void begin(int newLane, int n) {
            lane = newLane;
            length = n;
            for (int i = 0; i < SHEET_ROOM; i++) {
                items[i] = 0;
            }
        }

        void lose() {
            lane = MISSING;
            length = 0;
        }

        /** Told by a difference, since a sum of two great numbers would wrap around. */
        boolean holds(int i, int n) {
            return i >= 0 && n >= 0 && i <= length - n;
        }
    }
}
