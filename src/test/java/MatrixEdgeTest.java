import java.math.BigInteger;

/** Sentence by sentence, the edges of ==== 1 and of the promises 1, 2, 3, 5, 6, 7 and 8. */
public final class MatrixEdgeTest extends Bench {
    private static final String WIDEST = "'s1,2,3,4,5,6,0,1,2,3,4=5,6,0,1,2,3'; matrix();";

    public static void main(String[] args) {
        MatrixEdgeTest test = new MatrixEdgeTest();
        test.newObject();
        test.twoObjects();
        test.primesThatAre();
        test.primesThatAreNot();
        test.primeLeavesOver();
        test.primeLeavesTheRest();
        test.letters();
        test.fullTape();
        test.places();
        test.entriesByKind();
        test.entriesAtTheEdges();
        test.numbersLessThanNothing();
        test.counts();
        test.close();
    }

    private void newObject() {
        saysTerm(1, "THE PRIME is one of 2 .. 97 (7 at first)");
        run("count(2) = 7; prime(7) = NOT");
        saysTerm(1, "WIDTH rows and columns (1 .. 6; 1 at first)");
        run("count(0) = 1; cut() = NOT");
        saysTerm(1, "THE LINE, a row of 2 times WIDTH, less 1, numbers (0 at first)");
        run("LINE = 0; change(0, 0) = NOT");
        saysTerm(1, "its KIND (0 at first)");
        run("count(1) = 0; shape(0) = NOT");
        saysTerm(1, "THE RIGHT is a row of WIDTH numbers (0 at first)");
        run("RIGHT = 0; put(0, 0) = NOT");
        saysTerm(3, "THE DRAW is a number of 31 bits (1 at first)");
        run("seed(9) = 1");
        saysTerm(3, "sheets 0 .. 3: nothing (at first)");
        run("drop(0) = NULL; drop(1) = NULL; drop(2) = NULL; drop(3) = NULL");
        says(1, "a new object: no letter on THE TAPE");
        run("type(115) = 1");
        run("matrix() = -20");
        says(1, "a new object: nothing may be UNDONE");
        run("count(7) = 0; undo() = NONE");
        says(1, "a new object: there is no IMAGE");
        run("restore() = NONE");
        says(1, "a new object: what is known of one number that is 0");
        run("count(3) = 0; count(4) = 2; count(5) = 0; count(6) = 0; corner(0) = 1; corner(1) = 0; leap(0) = NONE;"
            + "solved(-1) = 7; solved(0) = 0; inverse(0, 0) = NONE; weak(0, 0) = 1; weak(0, 1) = 0; mend(0) = 0;"
            + "mend(1) = 1; term(1) = BAD; next(0) = 0; wiped(0, 0) = 1; wiped(0, 1) = 1");
    }

    private void twoObjects() {
        says(1, "a new object is as told, whatever others have done");
        Script.ready(BUSY);
        LeanDiagonals used = new LeanDiagonals();
        LeanDiagonals fresh = new LeanDiagonals();
        Script.run(used, BUSY, this::due);
        due("count(0) of the other", fresh.count(0), 1);
        due("count(2) of the other", fresh.count(2), 7);
        due("undo() of the other", fresh.undo(), NONE);
        due("restore() of the other", fresh.restore(), NONE);
        due("drop(0) of the other", fresh.drop(0), NULL);
        due("type(32) of the other", fresh.type(32), 1);
        due("seed(5) of the other", fresh.seed(5), 1);
        due("seed(5) of the first", used.seed(5), 99);
        due("count(2) of the first", used.count(2), 11);
    }

    private void primesThatAre() {
        says(2, "one of 2 .. 97: what it was");
        LeanDiagonals x = new LeanDiagonals();
        int before = 7;
        int taken = 0;
        for (int p = 97; p >= -10; p--) {
            if (p != before && p > 1 && BigInteger.valueOf(p).isProbablePrime(50)) {
                due("prime(" + p + ")", x.prime(p), before);
                due("count(2)", x.count(2), p);
                before = p;
                taken++;
            }
        }
        due("primes", taken, 25);
        run("prime(2) = 7; count(2) = 2; prime(97) = 2; count(2) = 97");
    }

    private void primesThatAreNot() {
        says(2, "BAD: no prime of 2 .. 97");
        leaves(BUSY, BAD, "prime(1)", "prime(0)", "prime(-1)", "prime(-2)", "prime(-7)", "prime(LEAST)");
        leaves(BUSY, BAD, "prime(98)", "prime(99)", "prime(101)", "prime(103)", "prime(MOST)");
        leaves(BUSY, BAD, "prime(4)", "prime(6)", "prime(9)", "prime(25)", "prime(49)", "prime(77)", "prime(91)",
            "prime(95)", "prime(96)");
        LeanDiagonals x = new LeanDiagonals();
        for (int n = -100; n <= 300; n++) {
            if (n < 2 || n > 97 || !BigInteger.valueOf(n).isProbablePrime(50)) {
                due("prime(" + n + ")", x.prime(n), BAD);
            }
        }
        says(2, "NOT: it is so");
        leaves(BUSY, NOT, "prime(11)");
        leaves("prime(2)", NOT, "prime(2)");
        leaves("prime(97)", NOT, "prime(97)");
    }

    private void primeLeavesOver() {
        says(2, "all numbers become what is left over by it");
        run("prime(97); 'e96,95,12,11,10,0,1,22,21,50,89=96,11,10,0,22,77'; matrix(); prime(11) = 97;"
            + "LINE = 8,7,1,0,10,0,1,0,10,6,1; RIGHT = 8,0,10,0,0,0; count(1) = 2; count(0) = 6");
        run("prime(97); 's96,95,94=96,1'; matrix(); prime(2) = 97; LINE = 0,1,0; RIGHT = 0,1");
        run("prime(2); 's1,0,1=1,0'; matrix(); prime(97) = 2; LINE = 1,0,1; RIGHT = 1,0");
        says(2, "all numbers are what is left over by it, sums, products too");
        run("'s6,5,6'; matrix(); count(5) = 3; prime(5); count(5) = 4; prime(2); count(5) = 1; prime(97);"
            + "count(5) = 96");
        saysTerm(3, "THE PRIME told leave nothing to be UNDONE");
        run("'s1,2,3'; matrix(); change(0, 6); turn(); count(7) = 2; prime(5) = 7; count(7) = 0; undo() = NONE;"
            + "LINE = 3,2,1; change(0, 0); count(7) = 1; undo() = 0; LINE = 3,2,1");
    }

    private void primeLeavesTheRest() {
        says(2, "only THE PRIME and the numbers are others: not THE DRAW, THE TAPE, SHEETS, the IMAGE");
        run("seed(123456); prime(2); seed(5) = 123456");
        run("'s10'; prime(11) = 7; matrix() = 1; LINE = 10");
        run("'s6'; prime(5) = 7; matrix() = -21");
        run("'s6'; matrix(); image(); prime(5); LINE = 1; restore() = 1; LINE = 6; count(2) = 7");
        run("'s1'; matrix(); sheet(0, 0, 2); item(0, 0, 0, 6); item(0, 0, 1, 6); prime(5); came(0, 0, 0) = 0;"
            + "prime(7); came(0, 0, 0) = 31");
    }

    private void letters() {
        says(3, "BAD: not 32 .. 126");
        leaves(BUSY, BAD, "type(31)", "type(127)", "type(0)", "type(-1)", "type(128)", "type(255)", "type(LEAST)",
            "type(MOST)");
        // What is left of these by 256 and by 65536 would be letters.
        leaves(BUSY, BAD, "type(288)", "type(371)", "type(65568)", "type(65651)", "type(-224)");
        says(3, "One letter more behind THE TAPE: how many it has");
        LeanDiagonals x = new LeanDiagonals();
        for (int letter = 32; letter < 32 + 70; letter++) {
            due("type(" + letter + ")", x.type(letter), letter - 31);
        }
        x = new LeanDiagonals();
        for (int letter = 126; letter > 126 - 70; letter--) {
            due("type(" + letter + ")", x.type(letter), 127 - letter);
        }
    }

    private void fullTape() {
        String sixtyEight = "'s0,0,0,0,0,0,0,0,0,0,0" + " ".repeat(46) + "';";
        String full = sixtyEight + "type(32); type(32);";
        says(3, "FULL: 70");
        run(sixtyEight + "type(126) = 69; type(32) = 70; type(32) = FULL; type(32) = FULL");
        leaves(BUSY + "matrix();" + full, FULL, "type(32)", "type(126)", "type(120)");
        says(3, "of several the first that a call names: BAD ahead of FULL");
        leaves(full, BAD, "type(31)", "type(127)", "type(-1)");
        says(3, "what is refused is not on THE TAPE");
        run(full + "type(120) = FULL; type(31) = BAD; matrix() = 6");
        run("'s1'; type(127) = BAD; type(31) = BAD; matrix() = 1; LINE = 1");
        says(4, "THE TAPE, which is empty then");
        run("'s1'; matrix() = 1; type(32) = 1");
        run("'x1'; matrix() = -20; type(32) = 1");
        run("'s1'; matrix() = 1; matrix() = -20; LINE = 1");
        run(full + "matrix() = 6; type(115) = 1; type(52) = 2; matrix() = 1; LINE = 4");
        run(sixtyEight + "'=='; matrix() = -89; type(115) = 1; type(52) = 2; matrix() = 1; LINE = 4");
    }

    private void places() {
        says(5, "THE LINE at a place. BAD");
        leaves(BUSY, BAD, "line(-1)", "line(3)", "line(11)", "line(MOST)", "line(LEAST)");
        leaves("", BAD, "line(-1)", "line(1)");
        leaves(WIDEST, BAD, "line(-1)", "line(11)");
        leaves(WIDEST, 1, "line(0)");
        leaves(WIDEST, 4, "line(10)");
        run("'s1,2,3,4,5'; matrix(); line(4) = 5; cut(); line(2) = 4; line(3) = BAD; line(4) = BAD");
        says(6, "THE RIGHT at a place. BAD");
        leaves(BUSY, BAD, "right(-1)", "right(2)", "right(6)", "right(MOST)", "right(LEAST)");
        leaves("", BAD, "right(-1)", "right(1)");
        leaves(WIDEST, BAD, "right(-1)", "right(6)");
        leaves(WIDEST, 5, "right(0)");
        leaves(WIDEST, 3, "right(5)");
        run("'s1,2,3,4,5=6,5,4'; matrix(); right(2) = 4; cut(); right(1) = 5; right(2) = BAD");
        says(7, "The entry in a row, a column. BAD");
        leaves(BUSY, BAD, "entry(-1, 0)", "entry(0, -1)", "entry(2, 0)", "entry(0, 2)", "entry(2, 2)",
            "entry(-1, -1)", "entry(LEAST, 0)", "entry(0, MOST)", "entry(MOST, LEAST)");
        leaves("", BAD, "entry(-1, 0)", "entry(0, -1)", "entry(1, 0)", "entry(0, 1)", "entry(1, 1)");
        leaves(WIDEST, BAD, "entry(6, 0)", "entry(0, 6)", "entry(-1, 5)", "entry(5, -1)");
    }

    private void entriesByKind() {
        String line = "1,2,3,4,5,6,0,1,2,3,4'; matrix();";
        saysTerm(1, "0 SLANT: THE LINE at MIDDLE and i, less j");
        run("'s" + line
            + "ENTRIES = 6 5 4 3 2 1 / 0 6 5 4 3 2 / 1 0 6 5 4 3 / 2 1 0 6 5 4 / 3 2 1 0 6 5 / 4 3 2 1 0 6");
        saysTerm(1, "1 BACK: as SLANT, of the column from behind (WIDTH less 1, less j)");
        run("'b" + line
            + "ENTRIES = 1 2 3 4 5 6 / 2 3 4 5 6 0 / 3 4 5 6 0 1 / 4 5 6 0 1 2 / 5 6 0 1 2 3 / 6 0 1 2 3 4");
        saysTerm(1, "2 EVEN: as SLANT of the greater one of i, j and the lesser one");
        run("'e" + line
            + "ENTRIES = 6 0 1 2 3 4 / 0 6 0 1 2 3 / 1 0 6 0 1 2 / 2 1 0 6 0 1 / 3 2 1 0 6 0 / 4 3 2 1 0 6");
        saysTerm(1, "3 ROUND: as SLANT of the row i less j (WIDTH more, where that is below 0), column 0");
        run("'r" + line
            + "ENTRIES = 6 4 3 2 1 0 / 0 6 4 3 2 1 / 1 0 6 4 3 2 / 2 1 0 6 4 3 / 3 2 1 0 6 4 / 4 3 2 1 0 6");
        saysTerm(1, "4 SIGN: as EVEN; but, where i is less than j, 0 less that");
        run("'n" + line
            + "ENTRIES = 6 0 6 5 4 3 / 0 6 0 6 5 4 / 1 0 6 0 6 5 / 2 1 0 6 0 6 / 3 2 1 0 6 0 / 4 3 2 1 0 6");
    }

    private void entriesAtTheEdges() {
        saysTerm(1, "MIDDLE being its place WIDTH less 1");
        for (String kind : new String[] {"s", "b", "e", "r", "n"}) {
            run("'" + kind + "5'; matrix(); ENTRIES = 5");
        }
        run("'s1,2,3'; matrix(); ENTRIES = 2 1 / 3 2");
        run("'b1,2,3'; matrix(); ENTRIES = 1 2 / 2 3");
        run("'e1,2,3'; matrix(); ENTRIES = 2 3 / 3 2");
        run("'r1,2,3'; matrix(); ENTRIES = 2 3 / 3 2");
        run("'n1,2,3'; matrix(); ENTRIES = 2 4 / 3 2");
        says(7, "the entry is by the WIDTH there is: WIDER and CUT move MIDDLE");
        run("'b1,2,3'; matrix(); widen(); ENTRIES = 0 1 2 / 1 2 3 / 2 3 0; cut(); cut(); ENTRIES = 2");
        run("'r1,2,3'; matrix(); widen(); ENTRIES = 2 0 3 / 3 2 0 / 0 3 2");
    }

    private void numbersLessThanNothing() {
        saysTerm(1, "what is less than nothing is made that by adding it");
        run("'n0,0,0,1,6'; matrix(); ENTRIES = 0 6 1 / 1 0 6 / 6 1 0");
        run("prime(2); 'n1,1,1'; matrix(); ENTRIES = 1 1 / 1 1");
        run("prime(97); 'n1,2,96'; matrix(); ENTRIES = 2 1 / 96 2; change(2, 1); entry(0, 1) = 96");
        run("'s1,0,1'; matrix(); count(5) = 6; prime(97); count(5) = 96; prime(2); count(5) = 1");
        saysTerm(1, "0 less 0 is 0, not THE PRIME");
        run("'n5,5,0'; matrix(); ENTRIES = 5 0 / 0 5");
        run("prime(2); 'n0,0,0'; matrix(); ENTRIES = 0 0 / 0 0");
    }

    private void counts() {
        says(8, "count. BAD");
        leaves(BUSY, BAD, "count(-1)", "count(8)", "count(9)", "count(MOST)", "count(LEAST)");
        says(8, "0 WIDTH: the least, the most");
        run("count(0) = 1; " + WIDEST + "count(0) = 6");
        says(8, "1 the KIND: the first, the last");
        run("count(1) = 0; shape(4); count(1) = 4");
        says(8, "2 THE PRIME: the least, the most");
        run("prime(2); count(2) = 2; prime(97); count(2) = 97");
        says(8, "3 RANK: the most rows none of which is a sum of multiples of the others");
        run("'s0,0,0,0,0,0,0,0,0,0,0'; matrix(); count(3) = 0");
        run("'s1,1,1,1,1,1,1,1,1,1,1'; matrix(); count(3) = 1");
        run("'s0,0,0,0,0,0,1,0,0,0,0'; matrix(); count(3) = 5");
        run("'b0,0,0,0,0,1,0,0,0,0,0'; matrix(); count(3) = 6");
        run("'s2,1,4'; matrix(); count(3) = 1; prime(5); count(3) = 2");
        says(8, "4 SINGULAR: CORNERS (a set of bits 1 .. WIDTH) that are 0");
        run("'s0,0,0,0,0,0,0,0,0,0,0'; matrix(); count(4) = 126");
        run("'s0,0,0,0,0,1,0,0,0,0,0'; matrix(); count(4) = 0");
        run("'b0,0,0,0,0,1,0,0,0,0,0'; matrix(); count(4) = 62");
        run("'b1,0,0,0,0,0,0,0,0,0,0'; matrix(); count(4) = 124");
        run("count(4) = 2; change(0, 1); count(4) = 0");
        says(8, "5 CORNER WIDTH: 0, 1, THE PRIME less 1");
        run("count(5) = 0; change(0, 1); count(5) = 1; change(0, 6); count(5) = 6; prime(97); change(0, 96);"
            + "count(5) = 96");
        says(8, "6 L of the LAW (0: all are 0; at most as many as THE LINE has)");
        run("count(6) = 0; change(0, 1); count(6) = 1");
        run("'s0,0,0,0,0,0,0,0,0,0,0'; matrix(); count(6) = 0; change(10, 1); count(6) = 11; turn(); count(6) = 1");
        says(8, "7 what may be UNDONE: none, 8 at most");
        run("count(7) = 0; turn(); count(7) = 1; turn(); turn(); turn(); turn(); turn(); turn(); count(7) = 7;"
            + "turn(); count(7) = 8; turn(); count(7) = 8");
    }
}
