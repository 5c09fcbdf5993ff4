import java.util.Random;

/** Runs of drawn calls, as many as an object is used for, each answered alike by the class and by the Oracle. */
public final class AgreeTest {
    private static final int RUNS = 1200;
    /** An object is used for so many calls; what later ones answer is free, so none is asked. */
    private static final int CALLS = 512;
    private static final int LONGEST_STEP = 90, LOOKED_AT = 88;
    private static final int[] PRIMES = {2, 3, 5, 7, 11, 13, 17, 19, 23, 29, 31, 37, 41, 43, 47, 53, 59, 61, 67, 71,
        73, 79, 83, 89, 97};
    private static final int[] WILD = {-1, -2, 0, 25, 101, Integer.MAX_VALUE, Integer.MIN_VALUE};

    private final Random random;
    private final Check check;
    private final int run;
    private final LeanDiagonals made = new LeanDiagonals();
    private final Oracle oracle = new Oracle();
    private int prime = 7;
    private int calls = 0;

    private AgreeTest(int run, Check check) {
        this.run = run;
        this.check = check;
        this.random = new Random(run * 7919L + 17);
    }

    public static void main(String[] args) {
        Check check = new Check();
        for (int run = 0; run < RUNS && check.wrong() == 0; run++) {
            new AgreeTest(run, check).go();
        }
        check.close("AgreeTest");
    }

    private void go() {
        while (calls <= CALLS - LONGEST_STEP - LOOKED_AT && check.wrong() == 0) {
            int sort = random.nextInt(100);
            if (sort < 12) {
                tellMatrix();
            } else if (sort < 45) {
                doSomething();
            } else if (sort < 75) {
                askSomething();
            } else {
                useSheets();
            }
        }
        lookAtAll();
        check.due("run " + run + ": calls left for the end", calls <= CALLS ? 1 : 0, 1);
        while (calls < CALLS && check.wrong() == 0) {
            askSomething();
        }
    }

    /** Mostly 0 to most, now and then beyond. */
    private int about(int most) {
        return random.nextInt(25) == 0 ? WILD[random.nextInt(WILD.length)] : random.nextInt(most + 2) - (random.nextInt(9) == 0 ? 1 : 0);
    }

    private void due(String call, long got, long want) {
        calls++;
        check.due("run " + run + ": " + call, got, want);
    }

    private void tellMatrix() {
        StringBuilder text = new StringBuilder();
        text.append("sbern".charAt(random.nextInt(5)));
        int width = 1 + random.nextInt(6);
        int most = random.nextBoolean() ? prime : Math.min(prime, 2);
        addRow(text, 2 * width - 1, most);
        if (random.nextInt(3) > 0) {
            text.append('=');
            addRow(text, width, most);
        }
        int flaws = random.nextInt(5) == 0 ? 1 + random.nextInt(3) : 0;
        for (int f = 0; f < flaws; f++) {
            int at = random.nextInt(text.length());
            char letter = " ,,==0199sxb ".charAt(random.nextInt(13));
            switch (random.nextInt(4)) {
                case 0 -> text.deleteCharAt(at);
                case 1 -> text.setCharAt(at, letter);
                case 2 -> text.setLength(at + 1);
                default -> text.insert(at, letter);
            }
            if (text.length() == 0) {
                text.append(' ');
            }
        }
        for (int i = 0; i < text.length(); i++) {
            int letter = text.charAt(i);
            due("type(" + letter + ")", made.type(letter), oracle.type(letter));
        }
        due("matrix() of '" + text + "'", made.matrix(), oracle.matrix());
    }

    private void addRow(StringBuilder text, int many, int most) {
        for (int i = 0; i < many; i++) {
            int v = random.nextInt(most);
            text.append(i > 0 ? "," : "").append(random.nextInt(20) == 0 ? " " : "");
            text.append(v < 10 && random.nextInt(20) == 0 ? "0" : "").append(v);
            text.append(random.nextInt(20) == 0 ? " " : "");
        }
    }

    private void doSomething() {
        int k = about(11);
        int v = about(prime);
        switch (random.nextInt(14)) {
            case 0 -> tellPrime();
            case 1 -> due("type(" + v + ")", made.type(v), oracle.type(v));
            case 2, 3 -> due("change(" + k + ", " + v + ")", made.change(k, v), oracle.change(k, v));
            case 4 -> due("put(" + k + ", " + v + ")", made.put(k, v), oracle.put(k, v));
            case 5 -> due("shape(" + k + ")", made.shape(k), oracle.shape(k));
            case 6 -> due("widen()", made.widen(), oracle.widen());
            case 7 -> due("cut()", made.cut(), oracle.cut());
            case 8 -> due("turn()", made.turn(), oracle.turn());
            case 9 -> due("drift(" + k + ")", made.drift(k), oracle.drift(k));
            case 10 -> due("undo()", made.undo(), oracle.undo());
            case 11 -> {
                int draw = random.nextInt();
                due("seed(" + draw + ")", made.seed(draw), oracle.seed(draw));
            }
            case 12 -> {
                due("undo()", made.undo(), oracle.undo());
                due("count(7)", made.count(7), oracle.count(7));
            }
            default -> keepOrRestore();
        }
    }

    private void tellPrime() {
        int p = random.nextInt(3) == 0 ? about(110) : PRIMES[random.nextInt(random.nextBoolean() ? 4 : PRIMES.length)];
        due("prime(" + p + ")", made.prime(p), oracle.prime(p));
        prime = oracle.count(2);
    }

    private void keepOrRestore() {
        if (random.nextInt(3) > 0) {
            due("image()", made.image(), oracle.image());
        } else {
            due("restore()", made.restore(), oracle.restore());
            prime = oracle.count(2);
        }
    }

    private void askSomething() {
        int k = about(6);
        int j = about(6);
        int what = about(2);
        switch (random.nextInt(16)) {
            case 0 -> due("line(" + k + ")", made.line(k), oracle.line(k));
            case 1 -> due("right(" + k + ")", made.right(k), oracle.right(k));
            case 2 -> due("entry(" + k + ", " + j + ")", made.entry(k, j), oracle.entry(k, j));
            case 3, 4 -> {
                int of = about(8);
                due("count(" + of + ")", made.count(of), oracle.count(of));
            }
            case 5 -> due("corner(" + k + ")", made.corner(k), oracle.corner(k));
            case 6 -> due("leap(" + k + ")", made.leap(k), oracle.leap(k));
            case 7, 8 -> due("solved(" + (k - 1) + ")", made.solved(k - 1), oracle.solved(k - 1));
            case 9, 10 -> due("inverse(" + k + ", " + j + ")", made.inverse(k, j), oracle.inverse(k, j));
            case 11 -> {
                int place = about(11);
                due("weak(" + place + ", " + what + ")", made.weak(place, what), oracle.weak(place, what));
            }
            case 12 -> due("mend(" + what + ")", made.mend(what), oracle.mend(what));
            case 13 -> {
                int place = about(11);
                due("term(" + place + ")", made.term(place), oracle.term(place));
            }
            case 14 -> {
                int place = about(20);
                due("next(" + place + ")", made.next(place), oracle.next(place));
            }
            default -> askOdds(what);
        }
    }

    private void askOdds(int what) {
        int c = about(10);
        if (oracle.count(0) < 5 || random.nextInt(12) == 0) {
            due("wiped(" + c + ", " + what + ")", made.wiped(c, what), oracle.wiped(c, what));
        } else {
            due("corner(" + c + ")", made.corner(c), oracle.corner(c));
        }
    }

    private void useSheets() {
        int s = about(2);
        int lane = random.nextInt(3) == 0 ? about(3) : 0;
        int i = about(random.nextBoolean() ? 2 : 12);
        String three = "(" + s + ", " + lane + ", " + i + ")";
        switch (random.nextInt(12)) {
            case 0, 1 -> due("came" + three, made.came(s, lane, i), oracle.came(s, lane, i));
            case 2, 3 -> due("apply" + three, made.apply(s, lane, i), oracle.apply(s, lane, i));
            case 4 -> due("film" + three, made.film(s, lane, i), oracle.film(s, lane, i));
            case 5 -> {
                int n = random.nextInt(4) == 0 ? about(24) : 20 + random.nextInt(5);
                due("sheet(" + s + ", " + lane + ", " + n + ")", made.sheet(s, lane, n), oracle.sheet(s, lane, n));
            }
            case 6 -> {
                if (random.nextInt(4) == 0) {
                    due("drop(" + s + ")", made.drop(s), oracle.drop(s));
                }
            }
            case 7, 8 -> setItem(s, lane, about(24));
            case 9 -> {
                int to = about(2);
                int j = about(12);
                int n = about(12);
                due("copy(" + s + ", " + i + ", " + to + ", " + j + ", " + n + ")", made.copy(s, i, to, j, n),
                    oracle.copy(s, i, to, j, n));
            }
            case 10 -> {
                due("film" + three, made.film(s, lane, i), oracle.film(s, lane, i));
                due("apply" + three, made.apply(s, lane, i), oracle.apply(s, lane, i));
                due("came" + three, made.came(s, lane, i), oracle.came(s, lane, i));
            }
            default -> {
                due("apply" + three, made.apply(s, lane, i), oracle.apply(s, lane, i));
                due("came" + three, made.came(s, lane, i), oracle.came(s, lane, i));
            }
        }
    }

    private void setItem(int s, int lane, int i) {
        long v = random.nextInt(6) == 0 ? random.nextLong() >> random.nextInt(64)
            : random.nextInt(prime) + (random.nextInt(8) == 0 ? 1L << 8 + 8 * random.nextInt(6) : 0);
        due("item(" + s + ", " + lane + ", " + i + ", " + v + ")", made.item(s, lane, i, v), oracle.item(s, lane, i, v));
    }

    private void lookAtAll() {
        for (int what = 0; what < 8; what++) {
            due("count(" + what + ")", made.count(what), oracle.count(what));
        }
        for (int i = -1; i < 12; i++) {
            due("line(" + i + ")", made.line(i), oracle.line(i));
            due("right(" + i + ")", made.right(i), oracle.right(i));
            due("corner(" + i + ")", made.corner(i), oracle.corner(i));
            due("solved(" + i + ")", made.solved(i), oracle.solved(i));
            due("term(" + i + ")", made.term(i), oracle.term(i));
            due("next(" + i + ")", made.next(i), oracle.next(i));
        }
        due("mend(0)", made.mend(0), oracle.mend(0));
        due("mend(1)", made.mend(1), oracle.mend(1));
    }
}
