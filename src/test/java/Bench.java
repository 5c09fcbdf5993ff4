/** What the tests of single sentences share: the sentence at hand, and what is due of objects made ready by Scripts. */
abstract class Bench {
    static final int BAD = -1, NOT = -2, FULL = -3, NONE = -4, NULL = -11, CAST = -12, INDEX = -13, SIZE = -14;
    static final int LEAST = Integer.MIN_VALUE, MOST = Integer.MAX_VALUE;

    /** Has something of all that a refused call could spoil, but for letters: an image, undos, a draw, sheets. */
    static final String LAID = "prime(11); seed(42); 'b1,2,3=4,5'; matrix(); change(0, 10); put(1, 6); image();"
        + "shape(3); turn(); seed(99); sheet(0, 0, 5); item(0, 0, 0, 7); item(0, 0, 4, 10); sheet(1, 2, 4);"
        + "item(1, 2, 1, 3); sheet(2, 3, 0);";
    static final String BUSY = LAID + "'s1';";

    private final Check check = new Check();
    private String sentence = "";
    private int sentences = 0;
    private int answers = 0;

    /** Begins the test of one sentence. */
    final void says(int promise, String words) {
        begin("promise " + promise + " '" + words + "'");
    }

    final void saysTerm(int part, String words) {
        begin("==== " + part + " '" + words + "'");
    }

    private void begin(String told) {
        endSentence();
        sentence = told;
        sentences++;
        answers = 0;
    }

    private void endSentence() {
        if (sentences > 0) {
            check.due(sentence + " has a test", answers > 0 ? 1 : 0, 1);
        }
    }

    final void close() {
        endSentence();
        System.out.println(getClass().getName() + ": " + sentences + " sentences");
        check.close(getClass().getName());
    }

    final void due(String call, long got, long want) {
        answers++;
        check.due(sentence + ": " + call, got, want);
    }

    /** The calls of one text, on a new object. */
    final void run(String script) {
        Script.run(new LeanDiagonals(), script, (call, got, want) -> due(call + " in \"" + script + "\"", got, want));
    }

    /** Each call has the answer and leaves all as it was; each is asked of a new object. */
    final void leaves(String ready, long want, String... calls) {
        for (String call : calls) {
            due(call + " behind \"" + ready + "\"", Script.ask(Script.ready(ready), call), want);
            alike(ready + ";" + call, ready);
        }
    }

    /** The first number of THE LINE becomes each one from the one to the other. */
    static String changes(int from, int to) {
        StringBuilder calls = new StringBuilder();
        for (int v = from; v <= to; v++) {
            calls.append("change(0, ").append(v).append(");");
        }
        return calls.toString();
    }

    /** What the two texts make is alike in all that can be seen. */
    final void alike(String script, String other) {
        String got = Look.at(script);
        String want = Look.at(other);
        boolean same = got.equals(want);
        if (!same) {
            System.out.println("\"" + script + "\" made" + got + "\nbut \"" + other + "\" made" + want);
        }
        due("\"" + script + "\" is like \"" + other + "\"", same ? 1 : 0, 1);
    }
}
