import java.util.HashMap;
import java.util.Map;

/** All that can be seen of an object that a Script made ready. Each look takes a new one, since looking changes it. */
final class Look {
    private static final Map<String, String> SEEN = new HashMap<>();
    private static final int SHEETS = 4, LANES = 4, NULL = -11, CAST = -12, ALL_KINDS = 31;

    private final String script;
    private final StringBuilder seen = new StringBuilder();

    private Look(String script) {
        this.script = script;
    }

    static String at(String script) {
        return SEEN.computeIfAbsent(script, s -> new Look(s).lookAtAll());
    }

    private String lookAtAll() {
        lookBack("now", Script.ready(script));
        LeanDiagonals x = Script.ready(script);
        seen.append("\n image ").append(x.restore());
        lookBack("image", x);
        x = Script.ready(script);
        seen.append("\n tape ").append(x.type(' '));
        x = Script.ready(script);
        seen.append(" read ").append(x.matrix());
        lookAtMatrix(x);
        for (int s = 0; s < SHEETS; s++) {
            lookAtSheet(s);
        }
        return seen.toString();
    }

    /** The matrix as it is, and as each undo makes it. */
    private void lookBack(String name, LeanDiagonals x) {
        seen.append("\n ").append(name);
        lookAtMatrix(x);
        int left = x.undo();
        for (int undone = 0; undone < 20 && left >= 0; undone++) {
            seen.append("\n  undone, left ").append(left);
            lookAtMatrix(x);
            left = x.undo();
        }
    }

    private void lookAtMatrix(LeanDiagonals x) {
        for (int what = 0; what < 8; what++) {
            seen.append(what == 0 ? " counts " : ",").append(x.count(what));
        }
        for (int k = 0; k < 11; k++) {
            seen.append(k == 0 ? " line " : ",").append(x.line(k));
        }
        for (int i = 0; i < 6; i++) {
            seen.append(i == 0 ? " right " : ",").append(x.right(i));
        }
        int draw = x.seed(0);
        x.seed(draw);
        seen.append(" draw ").append(draw);
    }

    private void lookAtSheet(int s) {
        int length = Script.ready(script).drop(s);
        seen.append("\n sheet ").append(s).append(" items ").append(length);
        if (length == NULL) {
            return;
        }
        LeanDiagonals x = Script.ready(script);
        int lane = 0;
        while (lane < LANES && x.item(s, lane, -1, 0) == CAST) {
            lane++;
        }
        seen.append(" lane ").append(lane).append(':');
        for (int i = 0; i < length; i++) {
            seen.append(' ').append(itemAt(Script.ready(script), s, lane, i));
        }
    }

    /** The item, or -1 if it is no number by 97. */
    static int itemAt(LeanDiagonals x, int s, int lane, int i) {
        int other = (s + 1) % SHEETS;
        x.prime(97);
        x.matrix();
        Script.type(x, "s1");
        x.matrix();
        x.sheet(other, lane, 2);
        x.copy(s, i, other, 0, 1);
        for (int v = 0; v < 97; v++) {
            x.item(other, lane, 1, v);
            if (x.came(other, lane, 0) == ALL_KINDS) {
                return v;
            }
        }
        return -1;
    }
}
