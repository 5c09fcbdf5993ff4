/** All small matrices there are, of all kinds: what is known of each is as the Oracle, which tries it out, says. */
public final class SmallTest {
    private final Check check = new Check();

    public static void main(String[] args) {
        SmallTest test = new SmallTest();
        test.tellAll(2, 1);
        test.tellAll(2, 2);
        test.tellAll(2, 3);
        test.tellAll(2, 4);
        test.tellAll(3, 1);
        test.tellAll(3, 2);
        test.tellAll(3, 3);
        test.tellAll(5, 2);
        test.check.close("SmallTest");
    }

    private void tellAll(int prime, int width) {
        int length = 2 * width - 1;
        int many = 1;
        for (int k = 0; k < length; k++) {
            many *= prime;
        }
        for (int told = 0; told < many * 5; told++) {
            int kind = told % 5;
            StringBuilder text = new StringBuilder().append("sbern".charAt(kind));
            int rest = told / 5;
            for (int k = 0; k < length; k++) {
                text.append(k > 0 ? "," : "").append(rest % prime);
                rest /= prime;
            }
            // Right sides that are drawn from the line itself are solved in some matrices and not in others.
            for (int i = 0; i < width; i++) {
                text.append(i > 0 ? "," : "=").append((told / 7 + i * (told / 5)) % prime);
            }
            compare(prime, width, text.toString());
        }
    }

    private void compare(int prime, int width, String text) {
        LeanDiagonals made = new LeanDiagonals();
        Oracle oracle = new Oracle();
        made.prime(prime);
        oracle.prime(prime);
        for (int i = 0; i < text.length(); i++) {
            made.type(text.charAt(i));
            oracle.type(text.charAt(i));
        }
        String of = " of " + text + " by " + prime;
        check.due("matrix()" + of, made.matrix(), oracle.matrix());
        for (int what = 3; what < 7; what++) {
            check.due("count(" + what + ")" + of, made.count(what), oracle.count(what));
        }
        for (int i = -1; i <= width; i++) {
            check.due("corner(" + i + ")" + of, made.corner(i), oracle.corner(i));
            check.due("leap(" + i + ")" + of, made.leap(i), oracle.leap(i));
            check.due("solved(" + i + ")" + of, made.solved(i), oracle.solved(i));
            for (int j = -1; j <= width; j++) {
                check.due("entry(" + i + ", " + j + ")" + of, made.entry(i, j), oracle.entry(i, j));
                check.due("inverse(" + i + ", " + j + ")" + of, made.inverse(i, j), oracle.inverse(i, j));
            }
        }
        compareLine(made, oracle, 2 * width - 1, of);
    }

    private void compareLine(LeanDiagonals made, Oracle oracle, int length, String of) {
        for (int k = 0; k <= length; k++) {
            check.due("weak(" + k + ", 0)" + of, made.weak(k, 0), oracle.weak(k, 0));
            check.due("weak(" + k + ", 1)" + of, made.weak(k, 1), oracle.weak(k, 1));
            check.due("term(" + k + ")" + of, made.term(k), oracle.term(k));
            check.due("next(" + k + ")" + of, made.next(k), oracle.next(k));
        }
        for (int what = 0; what < 2; what++) {
            check.due("mend(" + what + ")" + of, made.mend(what), oracle.mend(what));
            check.due("wiped(3, " + what + ")" + of, made.wiped(3, what), oracle.wiped(3, what));
        }
    }
}
