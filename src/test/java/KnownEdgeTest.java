/** Sentence by sentence, the edges of what is known of THE MATRIX: promises 18 to 28, and ==== 2. */
public final class KnownEdgeTest extends Bench {
    private static final String ZEROS = "'s0,0,0,0,0,0,0,0,0,0,0'; matrix();";
    private static final String UNIT = "'s0,0,0,0,0,1,0,0,0,0,0=1,2,3,4,5,6'; matrix();";
    private static final String UNIT_BACK = "'b0,0,0,0,0,1,0,0,0,0,0=1,2,3,4,5,6'; matrix();";
    /** 1 2, 4 1 by 7: the one row is a multiple of the other; without a solution, and with some. */
    private static final String UNSOLVED = "'s2,1,4=4,5'; matrix(); turn(); turn(); image();";
    private static final String MANY = "'s2,1,4=3,5'; matrix();";
    private static final String FILLED = "5,17,3,44,90,61,8,29,73,12,50'; matrix();";

    public static void main(String[] args) {
        KnownEdgeTest test = new KnownEdgeTest();
        test.nothingIsChanged();
        test.corners();
        test.leaps();
        test.ways();
        test.first();
        test.inverseOfOne();
        test.inverseOfMany();
        test.weakPlaces();
        test.mendPlaces();
        test.laws();
        test.nextOnes();
        test.odds();
        test.oddsInLowestTerms();
        test.images();
        test.restores();
        test.close();
    }

    private void nothingIsChanged() {
        saysTerm(2, "(Nothing is changed.)");
        leaves(BUSY, 1, "corner(0)", "leap(0)", "leap(1)", "solved(-1)");
        leaves(BUSY, 2, "corner(1)", "count(3)", "count(6)", "weak(2, 0)", "weak(2, 1)");
        leaves(BUSY, 3, "corner(2)", "count(5)");
        leaves(BUSY, 0, "count(4)");
        String[] asked = {"solved(0)", "solved(1)", "inverse(0, 1)", "weak(0, 0)", "weak(1, 1)", "mend(0)", "mend(1)",
            "term(1)", "term(2)", "next(0)", "next(20)", "wiped(5, 0)", "wiped(1, 1)", "wiped(10, 0)"};
        for (String call : asked) {
            alike(BUSY + call, BUSY);
        }
        for (String call : asked) {
            alike(UNSOLVED + call, UNSOLVED);
        }
    }

    private void corners() {
        says(18, "CORNER k (0 .. WIDTH). BAD");
        leaves(BUSY, BAD, "corner(-1)", "corner(3)", "corner(4)", "corner(7)", "corner(LEAST)", "corner(MOST)");
        leaves("", BAD, "corner(-1)", "corner(2)");
        leaves(ZEROS, BAD, "corner(-1)", "corner(7)");
        says(18, "(0: 1)");
        run("corner(0) = 1; prime(2); corner(0) = 1; " + ZEROS + "corner(0) = 1; shape(4); corner(0) = 1");
        says(18, "the determinant of the first k rows and columns");
        run(UNIT_BACK + "corner(1) = 0; corner(2) = 0; corner(3) = 0; corner(4) = 0; corner(5) = 0; corner(6) = 6");
        run(UNIT + "corner(1) = 1; corner(2) = 1; corner(3) = 1; corner(4) = 1; corner(5) = 1; corner(6) = 1");
        run("'b1,2,3'; matrix(); corner(1) = 1; corner(2) = 6");
        run("'r0,0,1,2,3'; matrix(); corner(1) = 1; corner(2) = 2; corner(3) = 4");
        says(18, "a determinant whose rows must change places");
        run("'s1,0,1'; matrix(); corner(2) = 6");
        run("'b0,0,1,0,0'; matrix(); corner(3) = 6; prime(97); corner(3) = 96; prime(2); corner(3) = 1");
        run("'b0,0,0,1,0,0,0'; matrix(); corner(4) = 1");
    }

    private void leaps() {
        says(19, "LEAP from k (0 .. WIDTH less 1). BAD");
        leaves(BUSY, BAD, "leap(-1)", "leap(2)", "leap(3)", "leap(LEAST)", "leap(MOST)");
        leaves("", BAD, "leap(-1)", "leap(1)");
        leaves(UNIT, BAD, "leap(-1)", "leap(6)");
        says(19, "how many more rows to the next CORNER that is not 0: 1 at least");
        run(UNIT + "leap(0) = 1; leap(1) = 1; leap(2) = 1; leap(3) = 1; leap(4) = 1; leap(5) = 1");
        run("change(0, 3); leap(0) = 1");
        says(19, "how many more rows: WIDTH at most");
        run(UNIT_BACK + "leap(0) = 6; leap(1) = 5; leap(2) = 4; leap(3) = 3; leap(4) = 2; leap(5) = 1");
        run("'s1,0,0,0,0,0,1,0,0,1,1'; matrix(); leap(0) = 6; leap(5) = 1");
        says(19, "the next one: CORNER k itself is not looked at");
        run("'s1,0,1'; matrix(); leap(0) = 2; leap(1) = 1");
        run("'s1,1,1'; matrix(); leap(0) = 1; leap(1) = NONE");
        says(19, "LEAP; NONE");
        leaves(ZEROS, NONE, "leap(0)", "leap(1)", "leap(2)", "leap(3)", "leap(4)", "leap(5)");
        leaves("", NONE, "leap(0)");
        says(19, "of several: BAD where there is no LEAP, too");
        leaves(ZEROS, BAD, "leap(6)", "leap(-1)");
    }

    private void ways() {
        says(20, "WAYS (-1: how many), FIRST at a place (0 .. WIDTH less 1). BAD");
        leaves(BUSY, BAD, "solved(-2)", "solved(2)", "solved(3)", "solved(LEAST)", "solved(MOST)");
        leaves("", BAD, "solved(-2)", "solved(1)");
        leaves(UNIT, BAD, "solved(-2)", "solved(6)");
        saysTerm(2, "WAYS: how many X there are (0: none)");
        leaves(UNSOLVED, 0, "solved(-1)");
        run("put(0, 1); solved(-1) = 0; put(0, 0); solved(-1) = 7");
        run(ZEROS + "put(5, 1); solved(-1) = 0");
        saysTerm(2, "WAYS: one, THE PRIME, and as many as there are rows of WIDTH numbers");
        run(UNIT + "solved(-1) = 1");
        run(MANY + "solved(-1) = 7");
        run(ZEROS + "solved(-1) = 117649; prime(2); solved(-1) = 64; prime(97); solved(-1) = 832972004929");
        run("prime(97); 's0,0,0,0,0,0,1,0,0,0,0'; matrix(); solved(-1) = 97");
        says(20, "FIRST at a place; NONE");
        leaves(UNSOLVED, NONE, "solved(0)", "solved(1)");
        says(20, "of several: BAD where there is no X, too");
        leaves(UNSOLVED, BAD, "solved(2)", "solved(-2)");
    }

    private void first() {
        saysTerm(2, "FIRST: the X with the least first number, then the least second one, and so on");
        run(UNIT + "solved(0) = 1; solved(5) = 6");
        run(UNIT_BACK + "solved(0) = 6; solved(5) = 1");
        run(MANY + "solved(0) = 0; solved(1) = 5");
        run("'s1,1,1,1,1=3,3,3'; matrix(); solved(-1) = 49; solved(0) = 0; solved(1) = 0; solved(2) = 3");
        run("'s0,0,1=0,5'; matrix(); solved(0) = 5; solved(1) = 0");
        run("'s1,0,0=5,0'; matrix(); solved(0) = 0; solved(1) = 5");
        run(ZEROS + "solved(0) = 0; solved(5) = 0");
        run("prime(97); 's96=1'; matrix(); solved(0) = 96");
        run("prime(2); 's1=1'; matrix(); solved(0) = 1");
    }

    private void inverseOfOne() {
        says(21, "The INVERSE in a row, a column. BAD");
        leaves(BUSY, BAD, "inverse(-1, 0)", "inverse(0, -1)", "inverse(2, 0)", "inverse(0, 2)", "inverse(LEAST, 0)",
            "inverse(0, MOST)", "inverse(MOST, LEAST)");
        leaves("change(0, 1)", BAD, "inverse(1, 0)", "inverse(0, 1)", "inverse(-1, 0)", "inverse(0, -1)");
        leaves(UNIT, BAD, "inverse(6, 0)", "inverse(0, 6)", "inverse(-1, 5)", "inverse(5, -1)");
        says(21, "The INVERSE; NONE");
        leaves(UNSOLVED, NONE, "inverse(0, 0)", "inverse(0, 1)", "inverse(1, 0)", "inverse(1, 1)");
        leaves("", NONE, "inverse(0, 0)");
        leaves(MANY, NONE, "inverse(0, 0)");
        says(21, "of several: BAD where there is no INVERSE, too");
        leaves(UNSOLVED, BAD, "inverse(2, 0)", "inverse(0, 2)", "inverse(-1, 0)", "inverse(0, -1)");
        says(21, "The INVERSE of one number");
        run("change(0, 1); inverse(0, 0) = 1; change(0, 3); inverse(0, 0) = 5; change(0, 6); inverse(0, 0) = 6");
        run("prime(2); change(0, 1); inverse(0, 0) = 1");
        run("prime(97); change(0, 2); inverse(0, 0) = 49; change(0, 96); inverse(0, 0) = 96");
    }

    private void inverseOfMany() {
        says(21, "X at i, of a 1 at j (0 else)");
        run("'s1,2,3=6,6'; matrix(); inverse(0, 0) = 2; inverse(0, 1) = 6; inverse(1, 0) = 4; inverse(1, 1) = 2");
        run(UNIT + "inverse(0, 0) = 1; inverse(5, 5) = 1; inverse(0, 5) = 0; inverse(5, 0) = 0");
        run(UNIT_BACK + "inverse(0, 5) = 1; inverse(5, 0) = 1; inverse(0, 0) = 0; inverse(5, 5) = 0");
        says(21, "The INVERSE makes each unit of a column as THE RIGHT its X");
        for (char kind : "sbern".toCharArray()) {
            LeanDiagonals x = Script.ready("prime(97); '" + kind + FILLED);
            for (int r = 0; r < 6; r++) {
                for (int j = 0; j < 6; j++) {
                    due("row " + r + " of kind " + kind + " times column " + j, timesInverse(x, r, j), r == j ? 1 : 0);
                }
            }
        }
    }

    private static int timesInverse(LeanDiagonals x, int r, int j) {
        int sum = 0;
        for (int c = 0; c < 6; c++) {
            sum += x.entry(r, c) * x.inverse(c, j);
        }
        return sum % 97;
    }

    private void weakPlaces() {
        says(22, "WEAK: a place of THE LINE. BAD");
        leaves(BUSY, BAD, "weak(-1, 0)", "weak(3, 0)", "weak(3, 1)", "weak(11, 0)", "weak(LEAST, 1)", "weak(MOST, 1)");
        leaves("", BAD, "weak(1, 0)", "weak(-1, 0)");
        leaves(ZEROS, BAD, "weak(11, 0)", "weak(-1, 1)");
        says(22, "how many (what 0), the least (1). BAD");
        leaves(BUSY, BAD, "weak(0, -1)", "weak(0, 2)", "weak(0, LEAST)", "weak(0, MOST)");
        says(22, "how many: none; the least: NONE");
        leaves("'s0,1,0'; matrix(); turn();", 0, "weak(0, 0)", "weak(2, 0)");
        leaves("'s0,1,0'; matrix(); turn();", NONE, "weak(0, 1)", "weak(2, 1)");
        says(22, "how many: all there are");
        leaves("'s0,0,0'; matrix();", 7, "weak(0, 0)", "weak(2, 0)");
        leaves("'s0,0,0'; matrix();", 0, "weak(0, 1)", "weak(2, 1)");
        leaves("prime(97); 's0,0,0'; matrix();", 97, "weak(0, 0)");
        leaves("prime(2); 's0,0,0'; matrix();", 2, "weak(0, 0)");
        says(22, "the least: 0, THE PRIME less 1, the one that stands there");
        run("'s0,6,6'; matrix(); weak(0, 0) = 1; weak(0, 1) = 6");
        run("'s2,1,4'; matrix(); weak(0, 0) = 1; weak(0, 1) = 2; weak(2, 0) = 1; weak(2, 1) = 4");
        run("'s1,1,1'; matrix(); weak(1, 0) = 2; weak(1, 1) = 1");
        run("prime(97); 's1,1,1'; matrix(); weak(1, 0) = 2; weak(1, 1) = 1; weak(0, 0) = 1; weak(0, 1) = 1");
        run("prime(97); 's96,1,1'; matrix(); weak(2, 0) = 1; weak(2, 1) = 96");
        run("'b0,0,0,0,1,0,0,0,0,0,1'; matrix(); weak(5, 0) = 6; weak(5, 1) = 1");
        says(22, "a place that stands in no entry");
        run("'e1,2,2'; matrix(); weak(0, 0) = 7; weak(0, 1) = 0; change(2, 1); weak(0, 0) = 0; weak(0, 1) = NONE");
    }

    private void mendPlaces() {
        says(23, "MEND: the place (what 0), the number (1). BAD");
        leaves("'s2,1,4'; matrix(); turn();", BAD, "mend(-1)", "mend(2)", "mend(LEAST)", "mend(MOST)");
        says(23, "NOT: CORNER WIDTH is not 0");
        leaves(BUSY, NOT, "mend(0)", "mend(1)");
        leaves("change(0, 6)", NOT, "mend(0)", "mend(1)");
        says(23, "NONE (both)");
        String beyond = "prime(2); 'e1,0,0,0,1'; matrix(); turn(); turn();";
        leaves(beyond, NONE, "mend(0)", "mend(1)");
        leaves("prime(3); 'n0,1,0,1,0'; matrix();", NONE, "mend(0)", "mend(1)");
        leaves("prime(2); 'r0,1,1,1,0,0,1,1,1,0,0'; matrix();", NONE, "mend(0)", "mend(1)");
        says(23, "of several: BAD ahead of NOT and of NONE");
        leaves(BUSY, BAD, "mend(-1)", "mend(2)");
        leaves(beyond, BAD, "mend(-1)", "mend(2)");
        saysTerm(2, "the first place of THE LINE at which another number alone makes it other than 0");
        run("mend(0) = 0; mend(1) = 1");
        run("'s1,1,1'; matrix(); mend(0) = 0; mend(1) = 0");
        run("'e1,2,2'; matrix(); mend(0) = 1; mend(1) = 0");
        run("prime(3); 'e1,0,1,0,1'; matrix(); mend(0) = 4; mend(1) = 0");
        run("prime(2); 's0,0,0'; matrix(); mend(0) = 1; mend(1) = 1");
        run("prime(97); 'b0,0,0'; matrix(); mend(0) = 1; mend(1) = 1");
        saysTerm(2, "the least such number");
        run("'s0,0,0'; matrix(); mend(0) = 1; mend(1) = 1");
        run("'s0,0,1'; matrix(); mend(0) = 0; mend(1) = 1");
        run("prime(5); 'e2,0,0,3,3,1,0,4,4,1,0'; matrix(); mend(0) = 5; mend(1) = 4; change(5, 4); mend(0) = NOT");
    }

    private void laws() {
        says(24, "ck (k 1 .. L). BAD");
        leaves(BUSY, BAD, "term(0)", "term(-1)", "term(3)", "term(LEAST)", "term(MOST)");
        saysTerm(2, "L (0: all are 0)");
        run(ZEROS + "count(6) = 0; term(1) = BAD; term(0) = BAD; next(0) = 0; next(20) = 0");
        leaves("", BAD, "term(0)", "term(1)");
        saysTerm(2, "L: at most as many as THE LINE has");
        run("'s0,0,0,0,0,0,0,0,0,0,3'; matrix(); count(6) = 11; term(1) = 0; term(11) = 0; term(12) = BAD;"
            + "next(0) = 0; next(20) = 0");
        run("change(0, 3); count(6) = 1; term(1) = 0; term(2) = BAD; next(0) = 0");
        run("'s0,0,3'; matrix(); count(6) = 3; term(3) = 0; term(4) = BAD");
        saysTerm(2, "the shortest row");
        run("'s1,3,2,6,4'; matrix(); count(6) = 1; term(1) = 3; term(2) = BAD");
        run("'s5,0,0,0,0,0,0,0,0,0,0'; matrix(); count(6) = 1; term(1) = 0");
        run("'s1,1,2,3,5,1,6'; matrix(); count(6) = 2; term(1) = 1; term(2) = 1; term(3) = BAD");
        run("'s1,0,0,0,1'; matrix(); count(6) = 4; term(4) = 1; term(5) = BAD");
        saysTerm(2, "of several the one with the least c1, then c2, and so on");
        run("'s1,2,1'; matrix(); count(6) = 2; term(1) = 0; term(2) = 1");
        run("'s0,1,0'; matrix(); count(6) = 2; term(1) = 0; term(2) = 0");
        run("'s0,1,6'; matrix(); count(6) = 2; term(1) = 6; term(2) = 0");
        run("'s1,2,0,5,2'; matrix(); count(6) = 3; term(1) = 0; term(2) = 2; term(3) = 1");
    }

    private void nextOnes() {
        says(25, "NEXT (0 .. 20). BAD");
        leaves(BUSY, BAD, "next(-1)", "next(21)", "next(22)", "next(LEAST)", "next(MOST)");
        leaves("", BAD, "next(-1)", "next(21)");
        saysTerm(2, "NEXT: the k-th number that would go on behind THE LINE by it");
        run("'s1,3,2'; matrix(); next(0) = 6; next(1) = 4; next(5) = 2; next(6) = 6; next(20) = 5");
        run("prime(97); 's1,5,25,28,43,21,8,40,6,30,53'; matrix(); count(6) = 1; next(0) = 71; next(20) = 7");
        run("prime(97); 's1,1,2,3,5,8,13,21,34,55,89'; matrix(); count(6) = 2; next(0) = 47; next(1) = 39;"
            + "next(19) = 6; next(20) = 77");
        run("prime(2); 's1,1,1'; matrix(); next(0) = 1; next(20) = 1");
    }

    private void odds() {
        says(26, "WIPED by c of 10 (0 .. 10). BAD");
        leaves(BUSY, BAD, "wiped(-1, 0)", "wiped(11, 0)", "wiped(-1, 1)", "wiped(11, 1)", "wiped(LEAST, 0)",
            "wiped(MOST, 1)");
        says(26, "above (what 0), below (1). BAD");
        leaves(BUSY, BAD, "wiped(5, -1)", "wiped(5, 2)", "wiped(0, LEAST)", "wiped(10, MOST)");
        saysTerm(2, "by 0 of 10: all is as it is");
        run("'s1,2,3'; matrix(); wiped(0, 0) = 0; wiped(0, 1) = 1");
        run("'s2,1,4'; matrix(); wiped(0, 0) = 1; wiped(0, 1) = 1");
        saysTerm(2, "by 10 of 10: all are 0");
        run("'s1,2,3'; matrix(); wiped(10, 0) = 1; wiped(10, 1) = 1");
        run("prime(97); 's" + FILLED + "wiped(10, 0) = 1; wiped(10, 1) = 1");
        saysTerm(2, "each number of THE LINE, apart, is 0 by c of 10");
        run("'e1,2,3'; matrix(); wiped(1, 0) = 1; wiped(1, 1) = 100; wiped(9, 0) = 81; wiped(9, 1) = 100");
        run("'s1,2,3'; matrix(); wiped(5, 0) = 3; wiped(5, 1) = 8; wiped(1, 0) = 19; wiped(1, 1) = 1000");
        saysTerm(2, "how likely: all numbers of the longest LINE count");
        run("prime(97); 's" + FILLED + "wiped(1, 0) = 3786023; wiped(1, 1) = 20000000000;"
            + "wiped(9, 0) = 3318101091; wiped(9, 1) = 4000000000");
        run("prime(97); 's1,2,3,4,5,6,7,8,9,10,11'; matrix(); wiped(1, 0) = 11196773291; wiped(1, 1) = 20000000000");
        run("prime(97); 's" + FILLED + "wiped(9, 0) = 3318101091; shape(1); wiped(9, 0) = 3318101091;"
            + "wiped(1, 0) = 3786023");
        run("prime(97); 'e" + FILLED + "wiped(1, 0) = 109; wiped(1, 1) = 1000000; shape(3);"
            + "wiped(1, 0) = 119557; shape(4); wiped(1, 0) = 6751");
        says(26, "how likely: one number alone, of each KIND");
        run("change(0, 4); wiped(3, 0) = 3; shape(1); wiped(3, 0) = 3; shape(2); wiped(3, 0) = 3; shape(3);"
            + "wiped(3, 0) = 3; shape(4); wiped(3, 0) = 3; wiped(3, 1) = 10");
        says(26, "what was asked ahead of a change counts for nothing");
        run("'s3'; matrix(); wiped(0, 0) = 0; change(0, 0); wiped(0, 0) = 1; undo(); wiped(0, 0) = 0; widen();"
            + "wiped(0, 0) = 0; shape(1); wiped(0, 0) = 0; change(1, 0); wiped(0, 0) = 1");
        run("'s3'; matrix(); wiped(3, 0) = 3; 's3,0,0'; matrix(); wiped(3, 0) = 1; wiped(3, 1) = 1");
        run("'s1,2,1'; matrix(); wiped(0, 0) = 0; prime(3); wiped(0, 0) = 1; prime(5); wiped(0, 0) = 0");
        run("'s1,2,2'; matrix(); wiped(0, 0) = 0; shape(2); wiped(0, 0) = 1; image(); shape(0); wiped(0, 0) = 0;"
            + "restore(); wiped(0, 0) = 1");
    }

    private void oddsInLowestTerms() {
        saysTerm(2, "a fraction in lowest terms");
        int[] above = {0, 1, 1, 3, 2, 1, 3, 7, 4, 9, 1};
        int[] below = {1, 10, 5, 10, 5, 2, 5, 10, 5, 10, 1};
        for (int c = 0; c <= 10; c++) {
            run("change(0, 4); wiped(" + c + ", 0) = " + above[c] + "; wiped(" + c + ", 1) = " + below[c]);
            run("wiped(" + c + ", 0) = 1; wiped(" + c + ", 1) = 1");
        }
    }

    private void images() {
        says(27, "All is kept as an IMAGE: 1");
        run("image() = 1; image() = 1");
        alike(LAID + "image(); prime(2); seed(3); 'n1'; matrix(); widen(); turn(); restore()", LAID + "image()");
        says(27, "what may be UNDONE is kept, too");
        run("prime(97); 's1'; matrix(); change(0, 2); change(0, 3); image(); change(0, 4); undo(); undo(); undo();"
            + "restore() = 1; LINE = 3; count(7) = 2; undo() = 1; LINE = 2; undo() = 0; LINE = 1; undo() = NONE");
        run("turn(); turn(); image(); prime(2); undo() = NONE; restore(); count(7) = 2; count(2) = 7");
        run("image(); turn(); turn(); restore(); count(7) = 0; undo() = NONE");
        says(27, "what may be UNDONE is kept, though older ones be lost ahead of it and behind it");
        String tens = "prime(97); " + changes(1, 10);
        alike(tens + "image(); " + changes(1, 3) + "restore()", tens + "image()");
        run(tens + "image(); " + changes(1, 3) + "restore(); LINE = 10; undo() = 7; LINE = 9; undo() = 6;"
            + "LINE = 8; undo() = 5;"
            + "LINE = 7; undo() = 4; LINE = 6; undo() = 3; LINE = 5; undo() = 2; LINE = 4; undo() = 1; LINE = 3;"
            + "undo() = 0; LINE = 2; undo() = NONE");
        says(27, "All but SHEETS");
        run("sheet(0, 0, 3); image(); sheet(0, 1, 7); sheet(1, 2, 5); restore(); drop(0) = 7; drop(1) = 5");
        run("sheet(0, 0, 3); image(); drop(0); restore(); drop(0) = NULL");
        says(27, "All but THE TAPE");
        run("'s1'; image(); '2'; restore(); type(32) = 4; matrix() = -21");
        run("'s5'; image(); matrix() = 1; restore() = 1; LINE = 0; matrix() = -20");
        says(27, "a later IMAGE is in place of the one ahead of it");
        run("change(0, 1); image(); change(0, 2); image(); change(0, 3); restore() = 1; LINE = 2");
        says(27, "image changes nothing but the IMAGE");
        alike("prime(11); 'b1,2=3'; turn(); image(); image()", "prime(11); 'b1,2=3'; turn(); image()");
        run("'b1,2,3=4,5'; matrix(); turn(); image() = 1; LINE = 3,2,1; RIGHT = 4,5; count(7) = 1; undo() = 0;"
            + "LINE = 1,2,3");
    }

    private void restores() {
        says(28, "NONE: there is none");
        leaves("", NONE, "restore()");
        leaves("prime(11); 'b1,2,3=4,5'; matrix(); turn(); seed(4); sheet(0, 0, 2); 's'", NONE, "restore()");
        says(28, "All is as it was then: 1");
        run("prime(97); seed(12); 'n96,95,94=93,92'; matrix(); image(); prime(2); seed(1); 's1'; matrix();"
            + "restore() = 1; count(0) = 2; count(1) = 4; count(2) = 97; LINE = 96,95,94; RIGHT = 93,92; seed(1) = 12");
        says(28, "the IMAGE stays as it is, whatever is done behind a restore");
        run("change(0, 3); image(); restore() = 1; change(0, 4); undo(); undo(); restore() = 1; LINE = 3;"
            + "count(7) = 1; restore() = 1");
        says(28, "a restore is not among what may be UNDONE");
        run("image(); turn(); restore() = 1; count(7) = 0; undo() = NONE");
        run("change(0, 5); image(); change(0, 6); restore() = 1; undo() = 0; LINE = 0");
    }
}
