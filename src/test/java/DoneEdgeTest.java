import java.math.BigInteger;

/** Sentence by sentence, the edges of what is done: promises 9 to 17, and their parts of ==== 1 and ==== 3. */
public final class DoneEdgeTest extends Bench {
    private static final String WIDEST = "'s1,2,3,4,5,6,0,1,2,3,4=5,6,0,1,2,3'; matrix();";
    private static final String SEVEN_TURNS = "turn(); turn(); turn(); turn(); turn(); turn(); turn();";

    public static void main(String[] args) {
        DoneEdgeTest test = new DoneEdgeTest();
        test.change();
        test.put();
        test.shape();
        test.widen();
        test.cut();
        test.turn();
        test.driftTurns();
        test.driftDraws();
        test.driftUndone();
        test.undoEachSort();
        test.undoEight();
        test.undoWrapsAround();
        test.undoWhateverWasTold();
        test.undoOfNone();
        test.seed();
        test.close();
    }

    private void change() {
        says(9, "change: a place that there is not. BAD");
        leaves(BUSY, BAD, "change(-1, 0)", "change(3, 0)", "change(11, 0)", "change(LEAST, 0)", "change(MOST, 0)");
        leaves("", BAD, "change(1, 1)", "change(-1, 1)");
        leaves(WIDEST, BAD, "change(11, 1)", "change(-1, 1)");
        says(9, "change: no number. BAD");
        leaves(BUSY, BAD, "change(0, -1)", "change(0, 11)", "change(0, 12)", "change(0, LEAST)", "change(0, MOST)");
        leaves("prime(2)", BAD, "change(0, 2)", "change(0, -1)");
        leaves("prime(97)", BAD, "change(0, 97)", "change(0, -1)");
        says(9, "NOT: it is so");
        leaves(BUSY, NOT, "change(0, 3)", "change(1, 2)", "change(2, 10)");
        leaves("", NOT, "change(0, 0)");
        says(9, "CHANGED: a number of THE LINE is another one: what it was");
        run(WIDEST + "change(0, 6) = 1; LINE = 6,2,3,4,5,6,0,1,2,3,4; change(10, 0) = 4; LINE = 6,2,3,4,5,6,0,1,2,3,0;"
            + "RIGHT = 5,6,0,1,2,3; count(7) = 2");
        run("prime(97); change(0, 96) = 0; change(0, 0) = 96; LINE = 0");
        run("prime(2); change(0, 1) = 0; change(0, 0) = 1");
        says(9, "a place that stands in no entry may be CHANGED, too");
        run("'e1,2,3'; matrix(); change(0, 6) = 1; LINE = 6,2,3; count(7) = 1; ENTRIES = 2 3 / 3 2");
    }

    private void put() {
        says(10, "put: a place that there is not. BAD");
        leaves(BUSY, BAD, "put(-1, 0)", "put(2, 0)", "put(6, 0)", "put(LEAST, 0)", "put(MOST, 0)");
        leaves("", BAD, "put(1, 1)", "put(-1, 1)");
        leaves(WIDEST, BAD, "put(6, 1)", "put(-1, 1)");
        says(10, "put: no number. BAD");
        leaves(BUSY, BAD, "put(0, -1)", "put(0, 11)", "put(0, 12)", "put(0, LEAST)", "put(0, MOST)");
        leaves("prime(2)", BAD, "put(0, 2)", "put(0, -1)");
        leaves("prime(97)", BAD, "put(0, 97)", "put(0, -1)");
        says(10, "NOT: it is so");
        leaves(BUSY, NOT, "put(0, 4)", "put(1, 6)");
        leaves("", NOT, "put(0, 0)");
        says(10, "CHANGED, of THE RIGHT: what it was");
        run(WIDEST + "put(0, 6) = 5; RIGHT = 6,6,0,1,2,3; put(5, 0) = 3; RIGHT = 6,6,0,1,2,0;"
            + "LINE = 1,2,3,4,5,6,0,1,2,3,4; count(7) = 2");
        run("prime(97); put(0, 96) = 0; put(0, 0) = 96; RIGHT = 0");
        run("prime(2); put(0, 1) = 0; put(0, 0) = 1");
    }

    private void shape() {
        says(11, "shape: no KIND. BAD");
        leaves(BUSY, BAD, "shape(-1)", "shape(5)", "shape(6)", "shape(LEAST)", "shape(MOST)");
        says(11, "NOT: it is so");
        leaves(BUSY, NOT, "shape(3)");
        leaves("", NOT, "shape(0)");
        leaves("shape(4)", NOT, "shape(4)");
        says(11, "SHAPED: the KIND it was");
        run("shape(4) = 0; count(1) = 4; shape(0) = 4; count(1) = 0; shape(1) = 0; shape(2) = 1; shape(3) = 2;"
            + "shape(4) = 3");
        says(11, "SHAPED: the KIND alone is another one");
        run(WIDEST + "shape(3) = 0; LINE = 1,2,3,4,5,6,0,1,2,3,4; RIGHT = 5,6,0,1,2,3; count(0) = 6; count(7) = 1");
    }

    private void widen() {
        says(12, "FULL: it is 6");
        leaves(WIDEST + "turn(); image();", FULL, "widen()");
        run("widen() = 2; widen() = 3; widen() = 4; widen() = 5; widen() = 6; widen() = FULL; count(0) = 6;"
            + "count(7) = 5");
        saysTerm(1, "WIDER: WIDTH is 1 more");
        run("'b1,2,3,4,5,6,0,1,2=3,4,5,6,1'; matrix() = 5; widen() = 6; count(0) = 6; count(1) = 1; count(7) = 1");
        saysTerm(1, "THE LINE has a 0 more ahead of all, and one behind");
        run("'s1,2,3,4,5,6,6,1,2'; matrix(); widen() = 6; LINE = 0,1,2,3,4,5,6,6,1,2,0");
        run("change(0, 5); widen() = 2; LINE = 0,5,0");
        saysTerm(1, "THE RIGHT a 0 behind");
        run("'s1,2,3,4,5,6,6,1,2=3,4,5,6,1'; matrix(); widen() = 6; RIGHT = 3,4,5,6,1,0");
        saysTerm(1, "a 0, not what had been CUT there");
        run(WIDEST + "cut(); widen() = 6; LINE = 0,2,3,4,5,6,0,1,2,3,0; RIGHT = 5,6,0,1,2,0");
        run(WIDEST + "cut(); cut(); cut(); cut(); cut(); widen(); widen(); widen(); widen(); widen() = 6;"
            + "LINE = 0,0,0,0,0,6,0,0,0,0,0; RIGHT = 5,0,0,0,0,0");
    }

    private void cut() {
        says(13, "NOT: it is 1");
        leaves("'n3=4'; matrix(); turn(); image();", NOT, "cut()");
        run("widen(); cut() = 1; cut() = NOT; count(0) = 1; count(7) = 2");
        saysTerm(1, "CUT: WIDTH is 1 less");
        run(WIDEST + "cut() = 5; cut() = 4; cut() = 3; cut() = 2; cut() = 1; cut() = NOT; count(7) = 5;"
            + "LINE = 6; RIGHT = 5");
        saysTerm(1, "the first and the last of THE LINE, the last of THE RIGHT are gone");
        run(WIDEST + "cut() = 5; LINE = 2,3,4,5,6,0,1,2,3; RIGHT = 5,6,0,1,2");
        run("'b1,2,3=4,5'; matrix(); cut() = 1; LINE = 2; RIGHT = 4; count(1) = 1");
    }

    private void turn() {
        saysTerm(1, "TURNED: THE LINE from behind");
        run(WIDEST + "turn(); LINE = 4,3,2,1,0,6,5,4,3,2,1; RIGHT = 5,6,0,1,2,3; count(0) = 6; count(1) = 0");
        run("'n1,2,3=4,5'; matrix(); turn(); LINE = 3,2,1; RIGHT = 4,5; count(1) = 4");
        says(14, "TURNED: one number alone");
        run("'s3=4'; matrix(); turn() = 3; LINE = 3; RIGHT = 4; count(7) = 1; undo() = 0");
        says(14, "CORNER WIDTH then");
        run("'e1,2,3'; matrix(); count(5) = 2; turn() = 3; count(5) = 3; turn() = 2");
        run("turn() = 0");
        says(14, "TURNED may be UNDONE, though THE LINE be the same from behind");
        run("'s1,2,1'; matrix(); turn() = 3; LINE = 1,2,1; count(7) = 1; turn() = 3; count(7) = 2");
    }

    private void driftTurns() {
        says(15, "A DRIFT of n turns (1 .. 40). BAD");
        leaves(BUSY, BAD, "drift(0)", "drift(41)", "drift(-1)", "drift(42)", "drift(LEAST)", "drift(MOST)");
        says(15, "n turns: 40 are 40 times one");
        StringBuilder single = new StringBuilder(WIDEST + "seed(31337);");
        for (int n = 1; n <= 40; n++) {
            single.append("drift(1);");
            alike(WIDEST + "seed(31337); drift(" + n + ")", single.toString());
        }
        says(15, "CORNER WIDTH then");
        run("drift(1) = 5; count(5) = 5");
        LeanDiagonals x = Script.ready(WIDEST);
        for (int n = 1; n <= 40; n++) {
            due("drift(" + n + ") is count(5)", x.drift(n), x.count(5));
        }
        says(15, "THE LINE and THE DRAW alone are others");
        run(WIDEST + "shape(2); drift(40); RIGHT = 5,6,0,1,2,3; count(0) = 6; count(1) = 2; count(2) = 7");
    }

    /** One turn from each draw, for each length of THE LINE and for three primes, told by unbounded numbers. */
    private void driftDraws() {
        saysTerm(3, "the lowest 31 bits of itself times 1103515245 and 12345 more");
        run("seed(0); drift(1); seed(1) = 12345");
        run("seed(1); drift(1); seed(1) = 1103527590");
        run("seed(MOST); drift(1); seed(1) = 1043980748");
        run("seed(1073741824); drift(1); seed(1) = 1073754169");
        saysTerm(3,
            "the place that it is by 65536, left over by how many there are, becomes what it is by 256, left over");
        int[] draws = {0, 1, 2, 3, 4, 5, 6, 7, 8, 9, 10, 11, 12, 13, 14, 15, 255, 256, 12345, 65535, 65536, 1 << 30,
            1103527590, MOST - 1, MOST};
        int[] primes = {2, 7, 97};
        int hit = 0;
        for (int width = 1; width <= 6; width++) {
            for (int draw : draws) {
                for (int prime : primes) {
                    hit |= 1 << dueDraw(width, draw, prime);
                }
            }
        }
        due("places that were hit", hit, (1 << 11) - 1);
    }

    private int dueDraw(int width, int draw, int prime) {
        long drawn = BigInteger.valueOf(draw).multiply(BigInteger.valueOf(1103515245)).add(BigInteger.valueOf(12345))
            .mod(BigInteger.TWO.pow(31)).longValue();
        int length = 2 * width - 1;
        int place = (int) (drawn / 65536 % length);
        LeanDiagonals x = Script.ready("prime(" + prime + "); " + "widen();".repeat(width - 1) + "seed(" + draw + ")");
        x.drift(1);
        for (int k = 0; k < length; k++) {
            String asked = "line(" + k + ") by draw " + draw + ", prime " + prime + ", width " + width;
            due(asked, x.line(k), k == place ? drawn / 256 % prime : 0);
        }
        due("the draw behind " + draw, x.seed(0), drawn);
        return place;
    }

    private void driftUndone() {
        says(15, "each may be UNDONE");
        run("'s1,2,3'; matrix(); drift(1); count(7) = 1; undo() = 0; LINE = 1,2,3; seed(1) = 1");
        run("'s1,2,3'; matrix(); drift(7); count(7) = 7; drift(1); count(7) = 8; drift(40); count(7) = 8");
        alike("'s1,2,3'; matrix(); image(); drift(5); undo(); undo()", "'s1,2,3'; matrix(); image(); drift(3)");
        says(15, "each may be UNDONE, THE DRAW being as ahead of it");
        run("'s1,2,3'; matrix(); drift(9); " + undos(7, 0) + "undo() = NONE; LINE = 1,2,5; seed(1) = 1103527590");
        says(15, "a turn may be UNDONE, though it drew what stood there");
        run("'s5'; matrix(); drift(1) = 5; LINE = 5; count(7) = 1; undo() = 0; seed(1) = 1");
    }

    private void undoEachSort() {
        String ready = "'b1,2,3=4,5'; matrix(); seed(77); image();";
        String[] sorts = {"change(0, 6)", "change(2, 0)", "put(0, 6)", "put(1, 0)", "shape(0)", "shape(4)", "widen()",
            "cut()", "turn()", "drift(1)"};
        saysTerm(3,
            "the latest of what is CHANGED, SHAPED, WIDER, CUT, TURNED, a turn of a DRIFT is as it had not been");
        for (String sort : sorts) {
            due("count(7) behind " + sort, Script.ask(Script.ready(ready + sort), "count(7)"), 1);
            due("undo() of " + sort, Script.ask(Script.ready(ready + sort), "undo()"), 0);
            alike(ready + sort + "; undo()", ready);
            alike(ready + "turn();" + sort + "; undo()", ready + "turn()");
        }
        saysTerm(3, "the latest: one of each sort, UNDONE one by one");
        StringBuilder done = new StringBuilder(ready);
        StringBuilder undone = new StringBuilder();
        String[] all = {"change(0, 6)", "put(0, 6)", "shape(0)", "widen()", "cut()", "turn()", "drift(1)"};
        for (int n = 0; n < all.length; n++) {
            done.append(all[n]).append(';');
            undone.append("undo();");
            alike(done + undone.toString(), ready);
        }
    }

    private void undoEight() {
        saysTerm(3, "8 are known, older ones lost");
        run("prime(97); " + changes(1, 7) + "count(7) = 7; " + undos(6, 0) + "LINE = 0; undo() = NONE");
        run("prime(97); " + changes(1, 8) + "count(7) = 8; " + undos(7, 0) + "LINE = 0; undo() = NONE");
        run("prime(97); " + changes(1, 9) + "count(7) = 8; " + undos(7, 0) + "LINE = 1; undo() = NONE; LINE = 1");
        run("prime(97); " + changes(1, 50) + "count(7) = 8; " + undos(7, 0) + "LINE = 42; undo() = NONE");
        says(16, "UNDONE: how many more may be");
        run("prime(97); " + changes(1, 8) + "undo() = 7; LINE = 7; undo() = 6; LINE = 6; undo() = 5; LINE = 5;"
            + "undo() = 4; LINE = 4; undo() = 3; LINE = 3; undo() = 2; LINE = 2; undo() = 1; LINE = 1;"
            + "undo() = 0; LINE = 0");
    }

    private static String undos(int from, int to) {
        StringBuilder calls = new StringBuilder();
        for (int left = from; left >= to; left--) {
            calls.append("undo() = ").append(left).append(';');
        }
        return calls.toString();
    }

    private void undoWrapsAround() {
        says(16, "what is UNDONE makes room again");
        run("prime(97); " + changes(1, 8) + undos(7, 5) + changes(60, 62) + "count(7) = 8; " + undos(7, 0)
            + "LINE = 0; undo() = NONE");
        run("prime(97); " + changes(1, 8) + undos(7, 5) + changes(60, 63) + "count(7) = 8; " + undos(7, 0)
            + "LINE = 1; undo() = NONE");
        run("prime(97); " + changes(1, 12) + undos(7, 4) + changes(60, 62) + "count(7) = 7; " + undos(6, 0)
            + "LINE = 4; undo() = NONE");
        run("prime(97); " + changes(1, 20) + undos(7, 0) + changes(60, 69) + undos(7, 0) + "LINE = 61; undo() = NONE");
        says(16, "what is UNDONE can't be UNDONE itself");
        run("prime(97); " + changes(1, 3) + "undo() = 2; LINE = 2; undo() = 1; LINE = 1; change(0, 50) = 1; undo() = 1;"
            + "LINE = 1; undo() = 0; LINE = 0; undo() = NONE; LINE = 0");
    }

    private void undoWhateverWasTold() {
        saysTerm(3, "THE DRAW is as ahead of it, whatever was told since");
        run("seed(5); turn(); seed(6); undo() = 0; seed(1) = 5");
        run("seed(5); turn(); seed(6); turn(); seed(7); undo() = 1; seed(1) = 6; undo() = 0; seed(1) = 5");
        saysTerm(3, "WIDTH, THE LINE, THE RIGHT, the KIND are as ahead of it");
        run("'r1,2,3=4,5'; matrix(); widen(); undo() = 0; LINE = 1,2,3; RIGHT = 4,5; count(0) = 2; count(1) = 3");
        run("'r1,2,3=4,5'; matrix(); cut(); undo() = 0; LINE = 1,2,3; RIGHT = 4,5; count(0) = 2; count(1) = 3");
        saysTerm(3, "a MATRIX told, THE PRIME told leave nothing to be UNDONE");
        leaves(SEVEN_TURNS + "'s1'; matrix()", NONE, "undo()");
        leaves(SEVEN_TURNS + "prime(5)", NONE, "undo()");
        saysTerm(3, "a MATRIX, a PRIME that are refused leave what may be UNDONE");
        run(SEVEN_TURNS + "'s1,'; matrix() = -23; count(7) = 7; prime(7) = NOT; count(7) = 7; prime(8) = BAD;"
            + "undo() = 6");
        saysTerm(3, "what is refused is not among what may be UNDONE");
        run("change(0, 0) = NOT; put(0, 0) = NOT; shape(0) = NOT; cut() = NOT; change(1, 1) = BAD; put(1, 1) = BAD;"
            + "shape(5) = BAD; drift(0) = BAD; drift(41) = BAD; count(7) = 0");
        run(WIDEST + "widen() = FULL; count(7) = 0; undo() = NONE");
    }

    private void undoOfNone() {
        says(16, "NONE: none is known");
        leaves("", NONE, "undo()");
        leaves(LAID + "prime(2); 's1'; seed(8)", NONE, "undo()");
        leaves(LAID + "undo(); undo(); undo(); undo(); 's1'", NONE, "undo()");
    }

    private void seed() {
        says(17, "BAD: below 0");
        leaves(BUSY, BAD, "seed(-1)", "seed(-2)", "seed(LEAST)");
        says(17, "THE DRAW becomes v: what it was");
        run("seed(0) = 1; seed(MOST) = 0; seed(MOST) = MOST; seed(1) = MOST; seed(1) = 1");
        says(17, "a seed is not among what may be UNDONE, and leaves that");
        run("seed(5); count(7) = 0; undo() = NONE; turn(); seed(6); count(7) = 1");
    }
}
