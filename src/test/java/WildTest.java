import java.lang.reflect.Method;
import java.lang.reflect.Modifier;
import java.util.Arrays;

/** Every call, with all of its arguments at and around every edge at once: none throws, all answer as the Oracle. */
public final class WildTest {
    private static final int LEAST = Integer.MIN_VALUE, MOST = Integer.MAX_VALUE;
    /** An object is used for 512 calls, and no state below takes 112 to make. */
    private static final int CALLS = 400;

    private static final long[] NUMBERS = {LEAST, LEAST + 1, -97, -2, -1, 0, 1, 2, 3, 4, 5, 6, 7, 8, 9, 10, 11, 12, 13,
        20, 21, 23, 24, 25, 31, 32, 39, 40, 41, 69, 70, 71, 96, 97, 98, 101, 126, 127, 255, 256, 65536, MOST - 1, MOST};
    private static final long[] SHEETS = {LEAST, -1, 0, 1, 2, 3, 4, MOST};
    private static final long[] ITEMS = {LEAST, -1, 0, 1, 2, 3, 4, 5, 6, 12, 13, 18, 23, 24, 25, MOST - 5, MOST};
    private static final long[] FEW = {LEAST, -1, 0, 1, 4, 5, 10, 11, 24, MOST};
    private static final long[] GREAT = {Long.MIN_VALUE, LEAST, -1, 0, 6, 7, 127, 128, 261, 65541, 1L << 31,
        (1L << 32) + 5, Long.MAX_VALUE};

    private static final String[] STATES = {
        "",
        Bench.BUSY,
        "prime(2); 'n1,1,0=1,1'; matrix(); sheet(0, 0, 24); sheet(1, 0, 5); sheet(2, 1, 24); item(1, 0, 3, 1)",
        "prime(97); 's96,1,2,3,4,5,6,7,8,9,96=1,2,3,4,5,96'; matrix(); sheet(0, 3, 24); sheet(1, 2, 6); drift(9);"
            + "image()",
        "'b0,0,0,0,0,0,0,0,0,0,0=0,0,0,0,0,1'; matrix(); sheet(0, 2, 12); sheet(1, 2, 11); sheet(2, 1, 0); turn()",
        "prime(3); 'r0,0,0,1,2,0,1'; matrix(); sheet(0, 1, 8); sheet(1, 1, 7); sheet(2, 0, 24); sheet(3, 0, 24);"
            + "image(); shape(2)"};

    private final Check check;
    private final String state;
    private final Method method;
    private final Method oracleMethod;
    private LeanDiagonals made;
    private Oracle oracle;
    private int calls = CALLS;

    private WildTest(Check check, String state, Method method) {
        this.check = check;
        this.state = state;
        this.method = method;
        this.oracleMethod = Script.methodNamed(new Oracle(), method.getName());
    }

    public static void main(String[] args) {
        Check check = new Check();
        for (String state : STATES) {
            for (Method method : LeanDiagonals.class.getDeclaredMethods()) {
                if (Modifier.isPublic(method.getModifiers())) {
                    new WildTest(check, state, method).askAll(new long[0]);
                }
            }
        }
        check.close("WildTest");
    }

    /** Asks the call with all that may follow the arguments at hand. */
    private void askAll(long[] arguments) {
        int at = arguments.length;
        if (at == method.getParameterCount()) {
            ask(arguments);
            return;
        }
        for (long value : valuesAt(at)) {
            long[] more = Arrays.copyOf(arguments, at + 1);
            more[at] = value;
            askAll(more);
        }
    }

    private long[] valuesAt(int at) {
        int many = method.getParameterCount();
        if (method.getParameterTypes()[at] == long.class) {
            return GREAT;
        }
        if (method.getName().equals("wiped")) {
            return FEW;
        }
        if (many < 3) {
            return method.getName().equals("drop") ? SHEETS : NUMBERS;
        }
        if (many == 5) {
            return at == 0 || at == 2 ? SHEETS : FEW;
        }
        return at < 2 ? SHEETS : ITEMS;
    }

    private void ask(long[] arguments) {
        if (calls >= CALLS) {
            made = Script.ready(state);
            oracle = new Oracle();
            Script.makeReady(oracle, state);
            calls = 0;
        }
        calls++;
        check.due(method.getName() + Arrays.toString(arguments) + " behind \"" + state + "\"",
            Script.invoke(made, method, arguments), Script.invoke(oracle, oracleMethod, arguments));
    }
}
