/** Promise by promise: ordinary inputs, the edges that the document names, and wrong inputs. */
public final class PromiseTest {
    private static final int BAD = -1, NOT = -2, FULL = -3, NONE = -4, NULL = -11, CAST = -12, INDEX = -13, SIZE = -14;
    private static final int LEAST = Integer.MIN_VALUE, MOST = Integer.MAX_VALUE;
    private static final Check CHECK = new Check();
    private static int promise = 0;

    public static void main(String[] args) {
        newObject();
        prime();
        type();
        matrixTaken();
        matrixFaults();
        lineRightEntry();
        count();
        changeAndPut();
        shapeWidenCut();
        turn();
        drift();
        undo();
        seed();
        cornerAndLeap();
        solved();
        inverse();
        weak();
        mend();
        law();
        wiped();
        imageAndRestore();
        came();
        apply();
        film();
        sheetAndDrop();
        item();
        copy();
        CHECK.close("PromiseTest");
    }

    private static void due(String call, long got, long want) {
        CHECK.due("promise " + promise + ": " + call, got, want);
    }

    private static void letters(LeanDiagonals x, String text) {
        for (int i = 0; i < text.length(); i++) {
            x.type(text.charAt(i));
        }
    }

    private static LeanDiagonals told(int p, String text) {
        LeanDiagonals x = new LeanDiagonals();
        x.prime(p);
        letters(x, text);
        due("matrix() of " + text, x.matrix() > 0 ? 1 : 0, 1);
        return x;
    }

    private static void dueLine(LeanDiagonals x, int... numbers) {
        for (int k = 0; k < numbers.length; k++) {
            due("line(" + k + ")", x.line(k), numbers[k]);
        }
        due("line behind its end", x.line(numbers.length), BAD);
    }

    private static void dueRight(LeanDiagonals x, int... numbers) {
        for (int i = 0; i < numbers.length; i++) {
            due("right(" + i + ")", x.right(i), numbers[i]);
        }
        due("right behind its end", x.right(numbers.length), BAD);
    }

    private static void newObject() {
        promise = 1;
        LeanDiagonals x = new LeanDiagonals();
        int[] counts = {1, 0, 7, 0, 2, 0, 0, 0};
        for (int what = 0; what < counts.length; what++) {
            due("count(" + what + ")", x.count(what), counts[what]);
        }
        dueLine(x, 0);
        dueRight(x, 0);
        due("seed(5)", x.seed(5), 1);
        due("restore()", x.restore(), NONE);
        due("undo()", x.undo(), NONE);
        due("type(32)", x.type(32), 1);
        for (int s = 0; s < 4; s++) {
            due("drop(" + s + ")", x.drop(s), NULL);
        }
    }

    private static void prime() {
        promise = 2;
        LeanDiagonals x = new LeanDiagonals();
        for (int p : new int[] {LEAST, -7, -1, 0, 1, 4, 6, 9, 49, 77, 91, 95, 98, 99, 101, MOST}) {
            due("prime(" + p + ")", x.prime(p), BAD);
        }
        int before = 7;
        for (int p : new int[] {2, 3, 5, 7, 11, 13, 17, 19, 23, 29, 31, 37, 41, 43, 47, 53, 59, 61, 67, 71, 73, 79, 83,
            89, 97}) {
            due("prime(" + p + ")", x.prime(p), before);
            due("prime(" + p + ") again", x.prime(p), NOT);
            before = p;
        }
        x = told(97, "e96,10,5=50,7");
        x.change(1, 20);
        x.seed(123456);
        due("prime(97)", x.prime(97), NOT);
        due("prime(98)", x.prime(98), BAD);
        due("count(7) behind what is refused", x.count(7), 1);
        due("prime(11)", x.prime(11), 97);
        due("count(7) behind a prime", x.count(7), 0);
        due("count(2)", x.count(2), 11);
        due("count(1)", x.count(1), 2);
        dueLine(x, 8, 9, 5);
        dueRight(x, 6, 7);
        due("seed(0)", x.seed(0), 123456);
    }

    private static void type() {
        promise = 3;
        LeanDiagonals x = new LeanDiagonals();
        for (int letter : new int[] {LEAST, -1, 0, 31, 127, 128, 288, MOST}) {
            due("type(" + letter + ")", x.type(letter), BAD);
        }
        due("type(32)", x.type(32), 1);
        due("type(126)", x.type(126), 2);
        for (int n = 3; n <= 70; n++) {
            due("type(65)", x.type(65), n);
        }
        due("type(65)", x.type(65), FULL);
        due("type(31)", x.type(31), BAD);
        due("matrix()", x.matrix(), -21);
        due("type(65)", x.type(65), 1);
    }

    private static void matrixTaken() {
        promise = 4;
        LeanDiagonals x = new LeanDiagonals();
        String[] texts = {"s1", "b1,2,3", "e0,1,2,3,4", "r6,5,4,3,2,1,0", "n0,1,2,3,4,5,6,0,1",
            "s0,1,2,3,4,5,6,0,1,2,3=1,2,3,4,5,6", "b 1 , 02 ,3 = 4,   05 ", "  e06=00"};
        int[] widths = {1, 2, 3, 4, 5, 6, 2, 1};
        int[] kinds = {0, 1, 2, 3, 4, 0, 1, 2};
        for (int t = 0; t < texts.length; t++) {
            letters(x, texts[t]);
            due("matrix() of " + texts[t], x.matrix(), widths[t]);
            due("count(0) of " + texts[t], x.count(0), widths[t]);
            due("count(1) of " + texts[t], x.count(1), kinds[t]);
        }
        x = told(7, "b1,2,3=4,5");
        dueLine(x, 1, 2, 3);
        dueRight(x, 4, 5);
        x.change(0, 6);
        x.seed(77);
        letters(x, "s3,0,5");
        due("matrix()", x.matrix(), 2);
        dueLine(x, 3, 0, 5);
        dueRight(x, 0, 0);
        due("undo()", x.undo(), NONE);
        due("seed(1)", x.seed(1), 77);
        due("count(2)", x.count(2), 7);
        x = told(97, "s96=96");
        dueLine(x, 96);
    }

    private static void matrixFaults() {
        LeanDiagonals x = told(7, "e1,2,3=4,5");
        x.change(0, 6);
        String twelve = "s0,0,0,0,0,0,0,0,0,0,0,0";
        String[] texts = {"", "   ", "x", "  x", "S1", "=1", "1", "s", "s ", "s  ", "s,1", "s=", "ss1", "s7", "s 7",
            "s06,", "s007", "s6 6", "s123", "s777", "s10", "s1,", "s1,,2", "s1,2", "s1,2 ", "s1,2=", "s1,2 =", "s1,2x",
            "s1,9=", "s1,2,9", "s1,2,3,", "s1,2,3,4=1,2", twelve, "s1=", "s1=1,", "s1=7", "s1=1=", "s1==",
            "s1,2,3=4", "s1,2,3=4 ", "s1,2,3=4,5,6", "s1,2,3=4 5", "s1,2,3=4,", "s1,2,3=4,55", "s1,2,3=4,5 x",
            "s1,2,3=004,5", "s1-2", "s-1"};
        int[] places = {0, 3, 0, 2, 0, 0, 0, 1, 2, 3, 1, 1, 1, 1, 2,
            4, 3, 3, 1, 1, 1, 3, 3, 4, 5, 4, 5, 4,
            3, 5, 7, 8, 22, 3, 4, 3, 4, 3,
            8, 9, 10, 9, 9, 9, 11,
            9, 2, 1};
        for (int t = 0; t < texts.length; t++) {
            letters(x, texts[t]);
            due("matrix() of '" + texts[t] + "'", x.matrix(), -20 - places[t]);
        }
        dueLine(x, 6, 2, 3);
        dueRight(x, 4, 5);
        due("count(1)", x.count(1), 2);
        due("count(7)", x.count(7), 1);
    }

    private static void dueEntries(LeanDiagonals x, int[] entries) {
        int width = x.count(0);
        for (int i = 0; i < width; i++) {
            for (int j = 0; j < width; j++) {
                due("entry(" + i + ", " + j + ") of kind " + x.count(1), x.entry(i, j), entries[i * width + j]);
            }
        }
    }

    private static void lineRightEntry() {
        promise = 5;
        LeanDiagonals x = told(7, "s1,2,3,4,5=6,0,2");
        dueLine(x, 1, 2, 3, 4, 5);
        due("line(-1)", x.line(-1), BAD);
        due("line(11)", x.line(11), BAD);
        due("line(MOST)", x.line(MOST), BAD);
        due("line(LEAST)", x.line(LEAST), BAD);
        promise = 6;
        dueRight(x, 6, 0, 2);
        due("right(-1)", x.right(-1), BAD);
        due("right(6)", x.right(6), BAD);
        due("right(LEAST)", x.right(LEAST), BAD);
        promise = 7;
        dueEntries(x, new int[] {3, 2, 1, 4, 3, 2, 5, 4, 3});
        x.shape(1);
        dueEntries(x, new int[] {1, 2, 3, 2, 3, 4, 3, 4, 5});
        x.shape(2);
        dueEntries(x, new int[] {3, 4, 5, 4, 3, 4, 5, 4, 3});
        x.shape(3);
        dueEntries(x, new int[] {3, 5, 4, 4, 3, 5, 5, 4, 3});
        x.shape(4);
        dueEntries(x, new int[] {3, 3, 2, 4, 3, 3, 5, 4, 3});
        x.change(4, 0);
        due("entry(0, 2): 0 less 0", x.entry(0, 2), 0);
        due("entry(3, 0)", x.entry(3, 0), BAD);
        due("entry(0, 3)", x.entry(0, 3), BAD);
        due("entry(-1, 0)", x.entry(-1, 0), BAD);
        due("entry(0, -1)", x.entry(0, -1), BAD);
        due("entry(MOST, LEAST)", x.entry(MOST, LEAST), BAD);
        dueEntries(told(2, "n1,1,1"), new int[] {1, 1, 1, 1});
    }

    private static void count() {
        promise = 8;
        LeanDiagonals x = told(7, "s1,1,1,1,1");
        int[] counts = {3, 0, 7, 1, 12, 0, 1, 0};
        for (int what = 0; what < counts.length; what++) {
            due("count(" + what + ")", x.count(what), counts[what]);
        }
        for (int what : new int[] {LEAST, -1, 8, MOST}) {
            due("count(" + what + ")", x.count(what), BAD);
        }
        x = told(5, "b0,0,0,0,1,0,0,0,0");
        due("count(1)", x.count(1), 1);
        due("count(3)", x.count(3), 5);
        due("count(4)", x.count(4), 2 + 4 + 8 + 16);
        due("count(5)", x.count(5), 1);
        due("count(6)", x.count(6), 5);
        due("count(3) of nothing but 0", told(5, "s0,0,0").count(3), 0);
        due("count(3) of a rank that lacks one", told(7, "s2,1,4").count(3), 1);
    }

    private static void changeAndPut() {
        promise = 9;
        LeanDiagonals x = told(7, "s1,2,3=4,5");
        due("change(0, 6)", x.change(0, 6), 1);
        due("change(0, 6)", x.change(0, 6), NOT);
        due("change(2, 0)", x.change(2, 0), 3);
        due("change(3, 0)", x.change(3, 0), BAD);
        due("change(-1, 0)", x.change(-1, 0), BAD);
        due("change(0, 7)", x.change(0, 7), BAD);
        due("change(0, -1)", x.change(0, -1), BAD);
        due("change(LEAST, MOST)", x.change(LEAST, MOST), BAD);
        dueLine(x, 6, 2, 0);
        due("count(7)", x.count(7), 2);
        promise = 10;
        due("put(1, 6)", x.put(1, 6), 5);
        due("put(1, 6)", x.put(1, 6), NOT);
        due("put(2, 0)", x.put(2, 0), BAD);
        due("put(-1, 0)", x.put(-1, 0), BAD);
        due("put(0, 7)", x.put(0, 7), BAD);
        due("put(0, -1)", x.put(0, -1), BAD);
        dueRight(x, 4, 6);
        due("count(7)", x.count(7), 3);
        due("undo()", x.undo(), 2);
        dueRight(x, 4, 5);
        due("undo()", x.undo(), 1);
        dueLine(x, 6, 2, 3);
    }

    private static void shapeWidenCut() {
        promise = 11;
        LeanDiagonals x = told(7, "s1,2,3=4,5");
        due("shape(0)", x.shape(0), NOT);
        due("shape(4)", x.shape(4), 0);
        due("shape(4)", x.shape(4), NOT);
        due("shape(1)", x.shape(1), 4);
        due("shape(5)", x.shape(5), BAD);
        due("shape(-1)", x.shape(-1), BAD);
        due("count(7)", x.count(7), 2);
        due("undo()", x.undo(), 1);
        due("count(1)", x.count(1), 4);
        promise = 12;
        due("widen()", x.widen(), 3);
        dueLine(x, 0, 1, 2, 3, 0);
        dueRight(x, 4, 5, 0);
        due("widen()", x.widen(), 4);
        due("widen()", x.widen(), 5);
        due("widen()", x.widen(), 6);
        due("widen()", x.widen(), FULL);
        dueLine(x, 0, 0, 0, 0, 1, 2, 3, 0, 0, 0, 0);
        due("count(7)", x.count(7), 5);
        promise = 13;
        x = told(7, "b1,2,3,4,5=6,1,2");
        due("cut()", x.cut(), 2);
        dueLine(x, 2, 3, 4);
        dueRight(x, 6, 1);
        due("cut()", x.cut(), 1);
        dueLine(x, 3);
        dueRight(x, 6);
        due("cut()", x.cut(), NOT);
        due("widen()", x.widen(), 2);
        dueLine(x, 0, 3, 0);
        dueRight(x, 6, 0);
        due("undo()", x.undo(), 2);
        due("undo()", x.undo(), 1);
        due("undo()", x.undo(), 0);
        dueLine(x, 1, 2, 3, 4, 5);
        dueRight(x, 6, 1, 2);
    }

    private static void turn() {
        promise = 14;
        LeanDiagonals x = told(7, "e1,2,3=4,5");
        due("count(5)", x.count(5), 2);
        due("turn()", x.turn(), 3);
        dueLine(x, 3, 2, 1);
        dueRight(x, 4, 5);
        due("turn()", x.turn(), 2);
        due("count(7)", x.count(7), 2);
        x = new LeanDiagonals();
        due("turn() of one 0", x.turn(), 0);
        due("count(7)", x.count(7), 1);
    }

    private static void drift() {
        promise = 15;
        LeanDiagonals x = new LeanDiagonals();
        for (int n : new int[] {LEAST, -1, 0, 41, MOST}) {
            due("drift(" + n + ")", x.drift(n), BAD);
        }
        due("drift(1)", x.drift(1), 5);
        dueLine(x, 5);
        due("seed(1)", x.seed(1), 1103527590);
        x = told(7, "s0,0,0");
        due("drift(1)", x.drift(1), 0);
        dueLine(x, 0, 0, 5);
        due("drift(40)", x.drift(40), x.count(5));
        due("count(7)", x.count(7), 8);
        x = told(97, "s0,0,0");
        x.seed(MOST);
        x.drift(1);
        // 2147483647 times 1103515245 and 12345 more leaves 1043980748 over: 15929 by 65536, 4078049 by 256.
        dueLine(x, 0, 0, 4078049 % 97);
        due("seed(0)", x.seed(0), 1043980748);
        x = told(7, "s1,2,3");
        x.drift(3);
        due("count(7)", x.count(7), 3);
        x.undo();
        x.undo();
        due("undo()", x.undo(), 0);
        dueLine(x, 1, 2, 3);
        due("seed(1)", x.seed(1), 1);
    }

    private static void undo() {
        promise = 16;
        LeanDiagonals x = told(97, "s0");
        for (int v = 1; v <= 10; v++) {
            x.change(0, v);
        }
        due("count(7)", x.count(7), 8);
        for (int left = 7; left >= 0; left--) {
            due("undo()", x.undo(), left);
            dueLine(x, left + 2);
        }
        due("undo()", x.undo(), NONE);
        x.change(0, 50);
        x.seed(99);
        due("undo() takes the draw back, too", x.undo(), 0);
        due("seed(3)", x.seed(3), 1);
        x = told(7, "s1,2,3=4,5");
        x.shape(3);
        x.widen();
        x.turn();
        x.cut();
        x.put(0, 0);
        x.undo();
        x.undo();
        due("count(0)", x.count(0), 3);
        x.undo();
        x.undo();
        due("count(1)", x.count(1), 3);
        due("undo()", x.undo(), 0);
        due("count(1)", x.count(1), 0);
        dueLine(x, 1, 2, 3);
        dueRight(x, 4, 5);
    }

    private static void seed() {
        promise = 17;
        LeanDiagonals x = new LeanDiagonals();
        due("seed(-1)", x.seed(-1), BAD);
        due("seed(LEAST)", x.seed(LEAST), BAD);
        due("seed(MOST)", x.seed(MOST), 1);
        due("seed(MOST)", x.seed(MOST), MOST);
        due("seed(0)", x.seed(0), MOST);
        due("seed(0)", x.seed(0), 0);
        due("count(7)", x.count(7), 0);
    }

    private static void cornerAndLeap() {
        promise = 18;
        LeanDiagonals x = told(7, "s1,1,1,1,2");
        int[] corners = {1, 1, 0, 0};
        for (int k = 0; k < corners.length; k++) {
            due("corner(" + k + ")", x.corner(k), corners[k]);
        }
        due("corner(4)", x.corner(4), BAD);
        due("corner(-1)", x.corner(-1), BAD);
        due("corner(LEAST)", x.corner(LEAST), BAD);
        due("corner(2): a row that lacks a pivot", told(7, "s1,0,1").corner(2), 6);
        due("corner(1): by the whole's width", told(7, "b4,5,6").corner(1), 4);
        promise = 19;
        due("leap(0)", x.leap(0), 1);
        due("leap(1)", x.leap(1), NONE);
        due("leap(2)", x.leap(2), NONE);
        due("leap(3)", x.leap(3), BAD);
        due("leap(-1)", x.leap(-1), BAD);
        x = told(7, "b0,0,1,0,0");
        due("leap(0)", x.leap(0), 3);
        due("leap(1)", x.leap(1), 2);
        due("leap(2)", x.leap(2), 1);
    }

    private static void solved() {
        promise = 20;
        LeanDiagonals x = told(97, "s0,0,0,0,0,0,0,0,0,0,0");
        due("solved(-1)", x.solved(-1), 832972004929L);
        due("solved(5)", x.solved(5), 0);
        due("solved(6)", x.solved(6), BAD);
        x = told(7, "s2,1,4=3,5");
        due("solved(-1)", x.solved(-1), 7);
        due("solved(0)", x.solved(0), 0);
        due("solved(1)", x.solved(1), 5);
        x.put(0, 4);
        due("solved(-1)", x.solved(-1), 0);
        due("solved(0)", x.solved(0), NONE);
        due("solved(1)", x.solved(1), NONE);
        due("solved(2)", x.solved(2), BAD);
        due("solved(-2)", x.solved(-2), BAD);
        due("solved(LEAST)", x.solved(LEAST), BAD);
        x = told(7, "s1,2,3=1,1");
        due("solved(-1)", x.solved(-1), 1);
        due("solved(0)", x.solved(0), 1);
        due("solved(1)", x.solved(1), 6);
    }

    private static void inverse() {
        promise = 21;
        LeanDiagonals x = told(7, "s1,2,3");
        int[] entries = {2, 6, 4, 2};
        for (int at = 0; at < 4; at++) {
            due("inverse(" + at / 2 + ", " + at % 2 + ")", x.inverse(at / 2, at % 2), entries[at]);
        }
        due("inverse(2, 0)", x.inverse(2, 0), BAD);
        due("inverse(0, 2)", x.inverse(0, 2), BAD);
        due("inverse(-1, 0)", x.inverse(-1, 0), BAD);
        due("inverse(0, LEAST)", x.inverse(0, LEAST), BAD);
        x = told(7, "s2,1,4");
        due("inverse(0, 0)", x.inverse(0, 0), NONE);
        due("inverse(2, 0)", x.inverse(2, 0), BAD);
    }

    private static void weak() {
        promise = 22;
        LeanDiagonals x = told(7, "s1,2,3");
        due("weak(0, 0)", x.weak(0, 0), 1);
        due("weak(0, 1)", x.weak(0, 1), 6);
        due("weak(1, 0)", x.weak(1, 0), 0);
        due("weak(1, 1)", x.weak(1, 1), NONE);
        due("weak(2, 1)", x.weak(2, 1), 4);
        due("weak(3, 0)", x.weak(3, 0), BAD);
        due("weak(-1, 0)", x.weak(-1, 0), BAD);
        due("weak(0, 2)", x.weak(0, 2), BAD);
        due("weak(0, -1)", x.weak(0, -1), BAD);
        x.change(2, 2);
        due("weak(1, 0)", x.weak(1, 0), 2);
        due("weak(1, 1)", x.weak(1, 1), 3);
        dueLine(x, 1, 2, 2);
        due("count(7)", x.count(7), 1);
        x = told(7, "e1,2,2");
        due("weak(0, 0): a place that is in no entry", x.weak(0, 0), 7);
        due("weak(0, 1)", x.weak(0, 1), 0);
    }

    private static void mend() {
        promise = 23;
        LeanDiagonals x = told(7, "e1,2,2");
        due("mend(0)", x.mend(0), 1);
        due("mend(1)", x.mend(1), 0);
        due("mend(2)", x.mend(2), BAD);
        due("mend(-1)", x.mend(-1), BAD);
        dueLine(x, 1, 2, 2);
        x = told(7, "s1,2,3");
        due("mend(0)", x.mend(0), NOT);
        due("mend(1)", x.mend(1), NOT);
        due("mend(2)", x.mend(2), BAD);
        x = told(2, "e0,0,0,0,1");
        due("mend(0)", x.mend(0), NONE);
        due("mend(1)", x.mend(1), NONE);
    }

    private static void law() {
        promise = 24;
        LeanDiagonals x = told(7, "s1,1,2,3,5");
        due("count(6)", x.count(6), 2);
        due("term(1)", x.term(1), 1);
        due("term(2)", x.term(2), 1);
        due("term(0)", x.term(0), BAD);
        due("term(3)", x.term(3), BAD);
        due("term(LEAST)", x.term(LEAST), BAD);
        due("term(MOST)", x.term(MOST), BAD);
        promise = 25;
        int[] onward = {1, 6, 0, 6, 6, 5, 4, 2, 6, 1, 0, 1, 1, 2, 3, 5, 1, 6, 0, 6, 6};
        for (int k = 0; k < onward.length; k++) {
            due("next(" + k + ")", x.next(k), onward[k]);
        }
        due("next(21)", x.next(21), BAD);
        due("next(-1)", x.next(-1), BAD);
        promise = 24;
        x = told(7, "s0,0,0,0,0,0,0,0,0,0,3");
        due("count(6): as long as the line", x.count(6), 11);
        due("term(11)", x.term(11), 0);
        due("term(12)", x.term(12), BAD);
        due("next(0)", x.next(0), 0);
        x = told(7, "s0,1,0");
        due("count(6)", x.count(6), 2);
        due("term(1)", x.term(1), 0);
        due("term(2): of several the least", x.term(2), 0);
        x = told(7, "s0,0,0");
        due("count(6)", x.count(6), 0);
        due("term(1)", x.term(1), BAD);
        due("next(20)", x.next(20), 0);
        x = told(7, "s1,3,2");
        due("count(6)", x.count(6), 1);
        due("term(1)", x.term(1), 3);
        due("next(0)", x.next(0), 6);
    }

    private static void dueOdds(LeanDiagonals x, int c, long above, long below) {
        due("wiped(" + c + ", 0)", x.wiped(c, 0), above);
        due("wiped(" + c + ", 1)", x.wiped(c, 1), below);
    }

    private static void wiped() {
        promise = 26;
        LeanDiagonals x = new LeanDiagonals();
        dueOdds(x, 0, 1, 1);
        dueOdds(x, 10, 1, 1);
        x.change(0, 3);
        dueOdds(x, 0, 0, 1);
        dueOdds(x, 3, 3, 10);
        dueOdds(x, 5, 1, 2);
        dueOdds(x, 10, 1, 1);
        x = told(7, "s1,2,3");
        dueOdds(x, 5, 3, 8);
        dueOdds(x, 1, 19, 1000);
        x.shape(2);
        // 4 less 9, 4, 0 less 9, 0: only both wiped make it 0.
        dueOdds(x, 1, 1, 100);
        x.change(2, 2);
        // 4 less 4, 4, 0 less 4, 0: all as they are, or both wiped.
        dueOdds(x, 1, 41, 50);
        x.undo();
        dueOdds(x, 1, 1, 100);
        due("wiped(11, 0)", x.wiped(11, 0), BAD);
        due("wiped(-1, 0)", x.wiped(-1, 0), BAD);
        due("wiped(0, 2)", x.wiped(0, 2), BAD);
        due("wiped(0, -1)", x.wiped(0, -1), BAD);
        x = told(97, "s0,0,0,0,0,1,0,0,0,0,0");
        dueOdds(x, 3, 3, 10);
        x = told(97, "s0,0,0,0,0,1,2,3,4,5,6");
        dueOdds(x, 3, 3, 10);
        x = told(7, "s3");
        dueOdds(x, 3, 3, 10);
        letters(x, "s3,0,0");
        x.matrix();
        dueOdds(x, 3, 1, 1);
        x = told(97, "s1,2,3,4,5,6,7,8,9,10,11");
        dueOdds(x, 10, 1, 1);
        x.change(0, 50);
        dueOdds(x, 10, 1, 1);
        dueOdds(told(7, "s0,2,3"), 1, 1, 10);
        x = told(7, "s1,2,4");
        dueOdds(x, 0, 1, 1);
        x.prime(3);
        // By 3 the last one is 1: 4 less 1 is 0 again.
        dueOdds(x, 0, 1, 1);
        x = told(7, "s1,2,1");
        dueOdds(x, 0, 0, 1);
        x.prime(3);
        // No number is another one, but 4 less 1 is 0 by 3.
        dueOdds(x, 0, 1, 1);
    }

    private static void imageAndRestore() {
        promise = 27;
        LeanDiagonals x = told(11, "b1,2,3=4,5");
        x.seed(42);
        x.change(0, 10);
        x.sheet(0, 2, 5);
        x.type('s');
        due("image()", x.image(), 1);
        x.type('1');
        x.sheet(0, 1, 7);
        x.prime(2);
        x.shape(0);
        x.widen();
        x.drift(9);
        promise = 28;
        due("restore()", x.restore(), 1);
        int[] counts = {2, 1, 11};
        for (int what = 0; what < counts.length; what++) {
            due("count(" + what + ")", x.count(what), counts[what]);
        }
        dueLine(x, 10, 2, 3);
        dueRight(x, 4, 5);
        due("count(7)", x.count(7), 1);
        due("undo()", x.undo(), 0);
        dueLine(x, 1, 2, 3);
        due("seed(0)", x.seed(0), 42);
        due("drop(0): sheets stay", x.drop(0), 7);
        due("matrix(): the tape stays", x.matrix(), 1);
        due("restore() again", x.restore(), 1);
        dueLine(x, 10, 2, 3);
        due("drop(0)", x.drop(0), NULL);
        due("image()", x.image(), 1);
        x.change(0, 0);
        x.image();
        x.change(0, 5);
        x.restore();
        dueLine(x, 0, 2, 3);
        due("restore() of none", new LeanDiagonals().restore(), NONE);
    }

    /** A SHEET of a LANE with items. */
    private static void lay(LeanDiagonals x, int s, int lane, long... items) {
        x.sheet(s, lane, items.length);
        for (int i = 0; i < items.length; i++) {
            x.item(s, lane, i, items[i]);
        }
    }

    private static void dueRefusals(LeanDiagonals x, int call, int items) {
        lay(x, 1, 2, new long[items]);
        int[][] wrong = {{-1, 0, 0, BAD}, {4, 0, 0, BAD}, {1, -1, 0, BAD}, {1, 4, 0, BAD}, {2, 0, 0, NULL},
            {2, 0, -1, NULL}, {2, 4, 0, BAD}, {1, 1, 0, CAST}, {1, 3, -1, CAST}, {1, 2, -1, INDEX}, {1, 2, 1, INDEX},
            {1, 2, MOST, INDEX}, {1, 2, LEAST, INDEX}, {LEAST, MOST, 0, BAD}};
        for (int[] w : wrong) {
            String told = "(" + w[0] + ", " + w[1] + ", " + w[2] + ")";
            long got = call == 0 ? x.came(w[0], w[1], w[2]) : call == 1 ? x.apply(w[0], w[1], w[2])
                : call == 2 ? x.film(w[0], w[1], w[2]) : x.item(w[0], w[1], w[2], 0);
            due("call " + call + told, got, w[3]);
        }
    }

    private static void came() {
        promise = 29;
        LeanDiagonals x = told(7, "s1,2,3");
        // SLANT 2 1 3 2, BACK 1 2 2 3, EVEN and ROUND 2 3 3 2, SIGN 2 4 3 2.
        lay(x, 0, 0, 1, 0, 2, 3, 9);
        due("came(0, 0, 0)", x.came(0, 0, 0), 1 + 4 + 8 + 16);
        due("came(0, 0, 1)", x.came(0, 0, 1), 0);
        lay(x, 0, 1, 5, 0, 1, 3, 2);
        due("came(0, 1, 1)", x.came(0, 1, 1), 4 + 8);
        lay(x, 0, 3, 0, 1, 2, 3);
        due("came(0, 3, 0)", x.came(0, 3, 0), 2);
        lay(x, 0, 3, 0, 0, 0, 0);
        due("came(0, 3, 0)", x.came(0, 3, 0), 31);
        lay(x, 0, 3, 7, 0, 0, 0);
        due("came(0, 3, 0): 7 is no number", x.came(0, 3, 0), 0);
        lay(x, 0, 3, 0, 0, 0, -7);
        due("came(0, 3, 0): -7 is no number", x.came(0, 3, 0), 0);
        lay(x, 0, 3, 0, 0, 0, 1L << 32);
        due("came(0, 3, 0): a great item is no number", x.came(0, 3, 0), 0);
        dueRefusals(x, 0, 4);
    }

    private static void apply() {
        promise = 30;
        LeanDiagonals x = told(7, "s1,2,3");
        lay(x, 0, 0, 9, 1, 4, 100, 100, 9);
        due("apply(0, 0, 1)", x.apply(0, 0, 1), 1);
        due("came(0, 0, 1)", x.came(0, 0, 1), 1);
        x.item(0, 0, 1, 6);
        x.item(0, 0, 2, 7);
        due("apply(0, 0, 1): 7 is no number", x.apply(0, 0, 1), NOT);
        due("apply(0, 0, 2): ahead of what is no number", x.apply(0, 0, 3), INDEX);
        due("apply(0, 0, 2)", x.apply(0, 0, 2), NOT);
        x.item(0, 0, 1, 1);
        x.item(0, 0, 2, 4);
        due("came(0, 0, 1): what is refused changes nothing", x.came(0, 0, 1), 1);
        x.shape(1);
        due("apply(0, 0, 1)", x.apply(0, 0, 1), 1);
        due("came(0, 0, 1)", x.came(0, 0, 1), 2);
        dueRefusals(x, 1, 4);
    }

    private static void film() {
        promise = 31;
        LeanDiagonals x = told(7, "s2,1,4=3,5");
        lay(x, 0, 2, 6, 6, 6, 6, 3, 5);
        due("film(0, 2, 2)", x.film(0, 2, 2), 7);
        due("came(0, 2, 2): 0, 5 makes 3, 5", x.came(0, 2, 2) & 1, 1);
        x.put(0, 0);
        due("film(0, 2, 0)", x.film(0, 2, 0), NONE);
        dueRefusals(x, 2, 2);
        x = told(11, "s0,0,0");
        lay(x, 0, 2, 6, 6);
        due("film(0, 2, 0): 121 ways", x.film(0, 2, 0), 9);
        x = told(7, "s0");
        lay(x, 0, 2, 6, 0);
        due("film(0, 2, 0): 7 ways", x.film(0, 2, 0), 7);
        x = told(3, "s0,0,0");
        lay(x, 0, 2, 6, 0);
        due("film(0, 2, 0): 9 ways", x.film(0, 2, 0), 9);
        x = told(7, "s3=6");
        lay(x, 0, 0, 0, 6);
        due("film(0, 0, 0)", x.film(0, 0, 0), 1);
        due("came(0, 0, 0): 3 times 2 is 6", x.came(0, 0, 0), 31);
    }

    private static void sheetAndDrop() {
        promise = 32;
        LeanDiagonals x = new LeanDiagonals();
        due("sheet(0, 0, 24)", x.sheet(0, 0, 24), 24);
        due("sheet(3, 3, 0)", x.sheet(3, 3, 0), 0);
        due("sheet(4, 0, 1)", x.sheet(4, 0, 1), BAD);
        due("sheet(-1, 0, -1)", x.sheet(-1, 0, -1), BAD);
        due("sheet(0, 4, 1)", x.sheet(0, 4, 1), BAD);
        due("sheet(0, -1, 1)", x.sheet(0, -1, 1), BAD);
        due("sheet(0, 0, 25)", x.sheet(0, 0, 25), BAD);
        due("sheet(0, 0, MOST)", x.sheet(0, 0, MOST), BAD);
        due("sheet(0, 0, -1)", x.sheet(0, 0, -1), SIZE);
        due("sheet(0, 0, LEAST)", x.sheet(0, 0, LEAST), SIZE);
        x.item(0, 0, 0, 100);
        due("sheet(0, 0, 2): a new row", x.sheet(0, 0, 2), 2);
        due("came(0, 0, 0)", x.came(0, 0, 0), 31);
        promise = 33;
        due("drop(0)", x.drop(0), 2);
        due("drop(0)", x.drop(0), NULL);
        due("drop(3)", x.drop(3), 0);
        due("drop(3)", x.drop(3), NULL);
        due("drop(4)", x.drop(4), BAD);
        due("drop(-1)", x.drop(-1), BAD);
    }

    private static void item() {
        promise = 34;
        LeanDiagonals x = told(7, "s1");
        long[] folds = {256, 65536, 1L << 32, 0};
        for (int lane = 0; lane < 4; lane++) {
            x.sheet(0, lane, 2);
            due("item(0, " + lane + ", 0, 5 and a bit beyond)", x.item(0, lane, 0, 5 + folds[lane]), 1);
            due("item(0, " + lane + ", 1, 5)", x.item(0, lane, 1, 5), 1);
            due("came(0, " + lane + ", 0)", x.came(0, lane, 0), 31);
            x.item(0, lane, 0, lane == 3 ? 5 + (1L << 32) : 5 + folds[lane] / 2);
            due("came(0, " + lane + ", 0): the highest bit is one", x.came(0, lane, 0), 0);
        }
        dueRefusals(x, 3, 1);
    }

    private static void copy() {
        promise = 35;
        LeanDiagonals x = told(7, "s1,2,3");
        lay(x, 0, 1, 1, 0, 2, 3, 6);
        x.sheet(1, 1, 6);
        due("copy(0, 0, 1, 2, 4)", x.copy(0, 0, 1, 2, 4), 4);
        due("came(1, 1, 2)", x.came(1, 1, 2), 1 + 4 + 8 + 16);
        due("copy(0, 0, 0, 1, 4): over itself", x.copy(0, 0, 0, 1, 4), 4);
        due("came(0, 1, 1)", x.came(0, 1, 1), 1 + 4 + 8 + 16);
        due("copy(0, 1, 0, 0, 4): back", x.copy(0, 1, 0, 0, 4), 4);
        due("came(0, 1, 0)", x.came(0, 1, 0), 1 + 4 + 8 + 16);
        due("copy(0, 5, 1, 6, 0)", x.copy(0, 5, 1, 6, 0), 0);
        x.sheet(2, 2, 6);
        int[][] wrong = {{-1, 0, 0, 0, 0, BAD}, {4, 0, 3, 0, 0, BAD}, {0, 0, 4, 0, 0, BAD}, {0, 0, -1, 0, 0, BAD},
            {3, 0, 0, 0, 1, NULL}, {0, 0, 3, 0, 1, NULL}, {3, -1, 3, 0, 1, NULL}, {0, 0, 2, 0, 1, CAST},
            {0, -1, 2, 0, -1, CAST}, {0, -1, 1, 0, 1, INDEX}, {0, 0, 1, -1, 1, INDEX}, {0, 0, 1, 0, -1, INDEX},
            {0, 2, 1, 0, 4, INDEX}, {0, 0, 1, 3, 4, INDEX}, {0, 6, 1, 0, 0, INDEX}, {0, 0, 1, 7, 0, INDEX},
            {0, MOST, 1, 0, MOST, INDEX}, {0, 1, 1, MOST, MOST, INDEX}, {0, LEAST, 1, 0, LEAST, INDEX}};
        for (int[] w : wrong) {
            due("copy(" + w[0] + ", " + w[1] + ", " + w[2] + ", " + w[3] + ", " + w[4] + ")",
                x.copy(w[0], w[1], w[2], w[3], w[4]), w[5]);
        }
        due("came(0, 1, 0): what is refused changes nothing", x.came(0, 1, 0), 1 + 4 + 8 + 16);
        due("came(1, 1, 2)", x.came(1, 1, 2), 1 + 4 + 8 + 16);
    }
}
