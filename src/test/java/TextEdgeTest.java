/** Sentence by sentence, the edges of a MATRIX that is a TEXT: promise 4, and its part of ==== 3. */
public final class TextEdgeTest extends Bench {
    private static final String BY_TWO = "prime(2);", BY_SEVEN = "prime(7);", BY_ELEVEN = LAID, BY_MOST = "prime(97);";
    private static final String ELEVEN_NUMBERS = "s1,2,3,4,5,6,0,1,2,3,4";

    public static void main(String[] args) {
        TextEdgeTest test = new TextEdgeTest();
        test.kinds();
        test.oddNumbers();
        test.elevenAtMost();
        test.belowThePrime();
        test.rightSides();
        test.inPlaceOfAll();
        test.digits();
        test.ofBothTheFirst();
        test.blanks();
        test.lettersThatCannotStand();
        test.theEnd();
        test.faultsLeaveAllElse();
        test.close();
    }

    /** Each text is a FAULT at the place, empties the tape and leaves all else. */
    private void fault(String ready, int place, String... texts) {
        for (String text : texts) {
            String typed = ready + "'" + text + "';";
            due("matrix() of '" + text + "' behind " + ready, Script.ready(typed).matrix(), -20 - place);
            alike(typed + "matrix()", ready);
        }
    }

    private void taken(String ready, String text, int width, String more) {
        run(ready + "'" + text + "'; matrix() = " + width + "; count(0) = " + width + ";" + more);
    }

    private void kinds() {
        saysTerm(3, "s b e r n (SLANT, BACK, EVEN, ROUND, SIGN)");
        for (int kind = 0; kind < 5; kind++) {
            taken("shape(" + (kind + 1) % 5 + ");", "sbern".charAt(kind) + "1,2,3", 2, "count(1) = " + kind);
        }
        saysTerm(3, "s b e r n, and no other letter");
        for (char letter = 33; letter < 127; letter++) {
            // A Script ends what is typed at its quote, so that this one letter is told by its number.
            String typed = "type(" + (int) letter + "); '1'; matrix() = ";
            run(typed + ("sbern".indexOf(letter) < 0 ? -20 : 1));
        }
        fault(BY_SEVEN, 0, "S1", "B1", "E1", "R1", "N1", "a1", "1", "0", "=1", ",1");
        saysTerm(3, "one letter of the KIND alone");
        fault(BY_SEVEN, 1, "ss1", "sb1", "nn");
        fault(BY_SEVEN, 2, "s s1");
    }

    private void oddNumbers() {
        saysTerm(3, "numbers with , between, an odd number of them");
        taken("", "s6", 1, "LINE = 6");
        taken("", "s6,5,4", 2, "LINE = 6,5,4");
        taken("", "s6,5,4,3,2", 3, "LINE = 6,5,4,3,2");
        taken("", "s6,5,4,3,2,1,0", 4, "LINE = 6,5,4,3,2,1,0");
        taken("", "s6,5,4,3,2,1,0,1,2", 5, "LINE = 6,5,4,3,2,1,0,1,2");
        taken("", "s6,5,4,3,2,1,0,1,2,3,4", 6, "LINE = 6,5,4,3,2,1,0,1,2,3,4");
        saysTerm(3, "a = or the end behind an even number of them, too: the end");
        fault(BY_ELEVEN, 4, "s1,2");
        fault(BY_SEVEN, 8, "s1,2,3,4");
        fault(BY_SEVEN, 12, "s1,2,3,4,5,6");
        fault(BY_SEVEN, 16, "s1,2,3,4,5,6,0,1");
        fault(BY_SEVEN, 20, "s1,2,3,4,5,6,0,1,2,3");
        saysTerm(3, "a = or the end behind an even number of them, too: a =");
        fault(BY_ELEVEN, 4, "s1,2=", "s1,2=1", "s1,2=1,1");
        fault(BY_SEVEN, 8, "s1,2,3,4=1,2");
        fault(BY_SEVEN, 20, "s1,2,3,4,5,6,0,1,2,3=1,2,3,4,5");
        fault(BY_SEVEN, 5, "s1,2 =1");
        saysTerm(3, "numbers: none is too few");
        fault(BY_ELEVEN, 1, "s", "s=", "s=1", "s,", "s,1");
    }

    private void elevenAtMost() {
        saysTerm(3, "11 at most (THE LINE)");
        taken("", ELEVEN_NUMBERS, 6, "LINE = 1,2,3,4,5,6,0,1,2,3,4");
        taken(BY_MOST, "s96,95,94,93,92,91,90,89,88,87,86=10,11,12,13,14,15", 6,
            "LINE = 96,95,94,93,92,91,90,89,88,87,86; RIGHT = 10,11,12,13,14,15");
        fault(BY_SEVEN, 22, ELEVEN_NUMBERS + ",", ELEVEN_NUMBERS + ",5", ELEVEN_NUMBERS + ",5,6",
            ELEVEN_NUMBERS + ",9", ELEVEN_NUMBERS + ",x");
        fault(BY_SEVEN, 24, ELEVEN_NUMBERS + "  ,5");
    }

    private void belowThePrime() {
        saysTerm(3, "each below THE PRIME: THE PRIME less 1 is");
        taken(BY_TWO, "s1,0,1", 2, "LINE = 1,0,1");
        taken(BY_SEVEN, "s6,06,6", 2, "LINE = 6,6,6");
        taken("prime(11);", "s10,10,10=10,10", 2, "LINE = 10,10,10; RIGHT = 10,10");
        taken(BY_MOST, "s96,96,96=96,96", 2, "LINE = 96,96,96; RIGHT = 96,96");
        saysTerm(3, "or of the number's first digit, if it is not as told: THE PRIME and above");
        fault(BY_TWO, 1, "s2", "s02", "s3", "s10", "s99", "s2,1,1");
        fault(BY_SEVEN, 1, "s7", "s8", "s07", "s10", "s7,1,1");
        fault(BY_SEVEN, 3, "s6,7,6", "s6,07,6", "s6,10,6");
        fault(BY_SEVEN, 5, "s6,6,7", "s6,6,08", "s6,6,99=1");
        fault(BY_ELEVEN, 1, "s11", "s12", "s99");
        fault(BY_MOST, 1, "s97", "s98", "s99");
        fault(BY_MOST, 5, "s96, 97,1");
        saysTerm(3, "the first one that is not as told");
        fault(BY_SEVEN, 3, "s1,7,8", "s1,7=", "s1,7x", "s1,7,", "s1,7");
    }

    private void rightSides() {
        saysTerm(3, "then perhaps = and WIDTH numbers with , between");
        taken("", "s1=6", 1, "RIGHT = 6");
        taken("", "s1,2,3=4,5", 2, "RIGHT = 4,5");
        taken("", ELEVEN_NUMBERS + "=1,2,3,4,5,6", 6, "RIGHT = 1,2,3,4,5,6");
        saysTerm(3, "WIDTH numbers: one too few");
        fault(BY_ELEVEN, 3, "s1=");
        fault(BY_ELEVEN, 7, "s1,2,3=");
        fault(BY_ELEVEN, 8, "s1,2,3=4");
        fault(BY_ELEVEN, 9, "s1,2,3=4,");
        fault(BY_SEVEN, 32, ELEVEN_NUMBERS + "=1,2,3,4,5");
        saysTerm(3, "WIDTH numbers: one too many");
        fault(BY_ELEVEN, 4, "s1=1,", "s1=1,1");
        fault(BY_ELEVEN, 10, "s1,2,3=4,5,", "s1,2,3=4,5,6", "s1,2,3=4,5,99");
        fault(BY_SEVEN, 34, ELEVEN_NUMBERS + "=1,2,3,4,5,6,0", ELEVEN_NUMBERS + "=1,2,3,4,5,6,");
        saysTerm(3, "WIDTH numbers, each below THE PRIME");
        fault(BY_SEVEN, 7, "s1,2,3=7,5", "s1,2,3=07,5", "s1,2,3=99");
        fault(BY_SEVEN, 9, "s1,2,3=4,7", "s1,2,3=4,10");
        fault(BY_SEVEN, 3, "s1=7");
        fault(BY_TWO, 3, "s1=2");
        fault(BY_MOST, 3, "s1=97");
        saysTerm(3, "one = alone");
        fault(BY_ELEVEN, 3, "s1==", "s1==1", "s1=,1");
        fault(BY_ELEVEN, 4, "s1=1=", "s1=1=1");
    }

    private void inPlaceOfAll() {
        saysTerm(3, "THE RIGHT; else 0");
        run("'s1,2,3=4,5'; matrix(); 's1,2,3'; matrix() = 2; RIGHT = 0,0");
        run("'s1=6'; matrix(); 's1'; matrix() = 1; RIGHT = 0");
        run("'" + ELEVEN_NUMBERS + "=1,2,3,4,5,6'; matrix(); '" + ELEVEN_NUMBERS + "'; matrix() = 6;"
            + "RIGHT = 0,0,0,0,0,0");
        saysTerm(3, "in place of all: a narrower one, then a wider one");
        run("'b" + ELEVEN_NUMBERS.substring(1) + "=1,2,3,4,5,6'; matrix(); 's5=6'; matrix() = 1; LINE = 5; RIGHT = 6;"
            + "count(1) = 0; widen(); LINE = 0,5,0; RIGHT = 6,0; 'n1,2,3,4,5'; matrix() = 3; LINE = 1,2,3,4,5;"
            + "RIGHT = 0,0,0; count(1) = 4");
        saysTerm(3, "THE PRIME, THE DRAW stay");
        run("prime(11); seed(77); 's10'; matrix() = 1; count(2) = 11; seed(1) = 77");
        run("prime(11); drift(1); 's10'; matrix() = 1; seed(1) = 1103527590");
        saysTerm(3, "a MATRIX told leaves nothing to be UNDONE");
        run("change(0, 3); turn(); count(7) = 2; 's5'; matrix() = 1; count(7) = 0; undo() = NONE; LINE = 5");
        run("'s5'; matrix(); turn(); 's5'; matrix() = 1; undo() = NONE");
        says(4, "the IMAGE and SHEETS stay");
        run("'s3=4'; matrix(); image(); sheet(1, 1, 7); 'e1,2,3'; matrix() = 2; drop(1) = 7; restore() = 1;"
            + "LINE = 3; RIGHT = 4");
    }

    private void digits() {
        saysTerm(3, "Numbers have 1 or 2 digits");
        taken("", "s0", 1, "LINE = 0");
        taken("", "s00", 1, "LINE = 0");
        taken("", "s1,01,06=00,6", 2, "LINE = 1,1,6; RIGHT = 0,6");
        taken(BY_MOST, "s9,10,96=09,90", 2, "LINE = 9,10,96; RIGHT = 9,90");
        saysTerm(3, "a third one can't stand there");
        fault(BY_SEVEN, 3, "s000", "s001", "s0000", "s064", "s019,x");
        fault(BY_MOST, 3, "s123", "s961", "s100");
        fault(BY_MOST, 6, "s1, 123,1");
        fault(BY_MOST, 5, "s1=961", "s1=001");
        fault(BY_MOST, 11, "s1,2,3=4,123");
    }

    private void ofBothTheFirst() {
        saysTerm(3, "of both the first digit's");
        fault(BY_SEVEN, 1, "s771", "s100", "s070", "s123");
        fault(BY_MOST, 1, "s971", "s990", "s9999");
        fault(BY_MOST, 3, "s1=971");
        saysTerm(3, "if it (by two digits at most) is not as told");
        // By all three digits 010 is as told by 11, 100 is not: but two digits are what counts.
        fault(BY_ELEVEN, 3, "s010", "s100", "s099");
    }

    private void blanks() {
        saysTerm(3, "blanks count for nothing");
        taken("", "  s  1  ,  2  ,  3  =  4  ,  5  ", 2, "LINE = 1,2,3; RIGHT = 4,5");
        taken("", " s1", 1, "LINE = 1");
        taken("", "s 1", 1, "LINE = 1");
        taken("", "s1 ", 1, "LINE = 1; RIGHT = 0");
        taken("", "s1 = 2 ", 1, "RIGHT = 2");
        taken(BY_MOST, "s 96 , 12 , 34", 2, "LINE = 96,12,34");
        saysTerm(3, "blanks ... but end a number");
        fault(BY_SEVEN, 3, "s1 2", "s0 1", "s6 6", "s1 2,3,4");
        fault(BY_MOST, 3, "s9 6");
        fault(BY_MOST, 4, "s12 3", "s96 1");
        fault(BY_MOST, 5, "s1=9 6");
        saysTerm(3, "the place of the first letter (behind blanks) that can't stand there");
        fault(BY_ELEVEN, 2, "  x", "  1", "s x", "s ,", "s =");
        fault(BY_ELEVEN, 5, "s1,  x", "s1   2", "s1=  x");
        fault(BY_ELEVEN, 4, " s1 x");
        saysTerm(3, "the place of the number's first digit, behind blanks");
        fault(BY_SEVEN, 3, "s  7", "s  10", "  s9");
        fault(BY_SEVEN, 5, "s1=  7");
    }

    private void lettersThatCannotStand() {
        saysTerm(3, "the first letter that can't stand there: in place of a number");
        fault(BY_ELEVEN, 1, "sx", "s-1", "s+1", "s/", "s:", "s.5");
        fault(BY_ELEVEN, 3, "s1,,2", "s1,x", "s1,=", "s1,s", "s1,-1", "s1,/", "s1,:");
        fault(BY_ELEVEN, 3, "s1=x", "s1=-1", "s1=/", "s1=:", "s1=s");
        saysTerm(3, "the first letter that can't stand there: behind a number");
        fault(BY_ELEVEN, 2, "s1x", "s1-", "s1/", "s1:", "s1s", "s1;", "s1.", "s1~");
        fault(BY_ELEVEN, 3, "s01x", "s10/", "s10:");
        fault(BY_ELEVEN, 4, "s1=1x", "s1=1:", "s1=1/");
        fault(BY_ELEVEN, 6, "s1,2,3x", "s1,2,3;4,5");
        fault(BY_ELEVEN, 8, "s1,2,3=4x", "s1,2,3=4=", "s1,2,3=4;5");
        saysTerm(3, "the first letter: what comes behind it is not looked at");
        fault(BY_SEVEN, 2, "s1xx", "s1x,99", "s1x999");
        fault(BY_SEVEN, 4, "s1,2x3");
    }

    private void theEnd() {
        saysTerm(3, "the end: how many there are");
        fault(BY_ELEVEN, 0, "");
        fault(BY_ELEVEN, 1, " ", "b");
        fault(BY_ELEVEN, 3, "   ", "s  ", "  s", "s1,", "s1=");
        fault(BY_ELEVEN, 4, "s1, ", "s1= ", "s 1,");
        fault(BY_ELEVEN, 5, "s1,2 ", "s1,  ");
        fault(BY_ELEVEN, 9, "s1,2,3=4 ", "s1,2,3=4,");
        saysTerm(3, "the end of a full THE TAPE: 70");
        fault(BY_SEVEN, 70, " ".repeat(70), "s" + " ".repeat(69), "s1,2" + " ".repeat(66), "s1=" + " ".repeat(67));
        fault(BY_SEVEN, 69, " ".repeat(69) + "x", "s" + " ".repeat(68) + "7");
        taken(BY_SEVEN, " ".repeat(68) + "s6", 1, "LINE = 6");
    }

    private void faultsLeaveAllElse() {
        says(4, "A FAULT (all else stays)");
        fault(LAID, 34, ELEVEN_NUMBERS + "=1,2,3,4,5,6x");
        fault(LAID, 33, ELEVEN_NUMBERS + "=1,2,3,4,5,11");
        fault(LAID, 7, "e5,5,5,");
        run("'b1,2,3=4,5'; matrix(); 'e6,6,6=6'; matrix() = -28; LINE = 1,2,3; RIGHT = 4,5; count(1) = 1");
    }
}
