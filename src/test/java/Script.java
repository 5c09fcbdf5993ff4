import java.lang.reflect.InvocationTargetException;
import java.lang.reflect.Method;
import java.lang.reflect.Modifier;
import java.util.ArrayList;
import java.util.List;

/**
 * Calls told by a text, with the answers that are due: "'s1,2,3'; matrix() = 2; change(0, 7) = BAD; LINE = 1,2,3".
 * What is quoted is typed letter by letter; LINE, RIGHT and ENTRIES ask for all numbers of these and for their ends.
 */
final class Script {
    /** Takes an answer and the one that is due. */
    interface Due {
        void due(String call, long got, long want);
    }

    private Script() {
    }

    /** The calls are made on an object of the class, or on an Oracle. */
    static void run(Object x, String text, Due due) {
        for (String step : steps(text)) {
            int equals = step.startsWith("'") ? -1 : step.indexOf('=');
            if (step.startsWith("'")) {
                type(x, step.substring(1, step.length() - 1));
            } else if (equals < 0) {
                ask(x, step);
            } else {
                dueStep(x, step.substring(0, equals).trim(), step.substring(equals + 1).trim(), due);
            }
        }
    }

    /** A new object, made ready by calls whose answers are not looked at. */
    static LeanDiagonals ready(String text) {
        LeanDiagonals x = new LeanDiagonals();
        makeReady(x, text);
        return x;
    }

    static void makeReady(Object x, String text) {
        run(x, text, (call, got, want) -> {
            throw new IllegalArgumentException("nothing is due in " + text);
        });
    }

    static void type(Object x, String letters) {
        Method method = methodNamed(x, "type");
        for (int i = 0; i < letters.length(); i++) {
            invoke(x, method, new long[] {letters.charAt(i)});
        }
    }

    /** The answer to one call, as "change(0, 7)". */
    static long ask(Object x, String call) {
        int open = call.indexOf('(');
        if (open < 0 || !call.endsWith(")")) {
            throw new IllegalArgumentException("no call: " + call);
        }
        String inside = call.substring(open + 1, call.length() - 1).trim();
        String[] told = inside.isEmpty() ? new String[0] : inside.split(",");
        long[] values = new long[told.length];
        for (int a = 0; a < told.length; a++) {
            values[a] = number(told[a]);
        }
        return invoke(x, methodNamed(x, call.substring(0, open).trim()), values);
    }

    static long invoke(Object x, Method method, long[] values) {
        Class<?>[] types = method.getParameterTypes();
        if (types.length != values.length) {
            throw new IllegalArgumentException("other arguments: " + method);
        }
        Object[] arguments = new Object[types.length];
        for (int a = 0; a < types.length; a++) {
            arguments[a] = types[a] == long.class ? (Object) values[a] : (Object) Math.toIntExact(values[a]);
        }
        try {
            return ((Number) method.invoke(x, arguments)).longValue();
        } catch (IllegalAccessException | InvocationTargetException thrown) {
            throw new IllegalStateException(method + " threw", thrown.getCause());
        }
    }

    static long number(String told) {
        return switch (told.trim()) {
            case "BAD" -> -1;
            case "NOT" -> -2;
            case "FULL" -> -3;
            case "NONE" -> -4;
            case "NULL" -> -11;
            case "CAST" -> -12;
            case "INDEX" -> -13;
            case "SIZE" -> -14;
            case "LEAST" -> Integer.MIN_VALUE;
            case "MOST" -> Integer.MAX_VALUE;
            default -> Long.parseLong(told.trim());
        };
    }

    static Method methodNamed(Object x, String name) {
        for (Method method : x.getClass().getDeclaredMethods()) {
            if (method.getName().equals(name) && !Modifier.isPrivate(method.getModifiers())) {
                return method;
            }
        }
        throw new IllegalArgumentException("no method: " + name);
    }

    private static void dueStep(Object x, String what, String want, Due due) {
        switch (what) {
            case "LINE" -> dueRow("line", x, want, due);
            case "RIGHT" -> dueRow("right", x, want, due);
            case "ENTRIES" -> dueEntries(x, want.split("/"), due);
            default -> due.due(what, ask(x, what), number(want));
        }
    }

    private static void dueRow(String name, Object x, String want, Due due) {
        String[] numbers = want.split(",");
        for (int k = -1; k <= numbers.length; k++) {
            String call = name + "(" + k + ")";
            due.due(call, ask(x, call), k < 0 || k == numbers.length ? number("BAD") : number(numbers[k]));
        }
    }

    private static void dueEntries(Object x, String[] rows, Due due) {
        due.due("count(0)", ask(x, "count(0)"), rows.length);
        for (int i = 0; i < rows.length; i++) {
            String[] numbers = rows[i].trim().split(" +");
            for (int j = 0; j < numbers.length; j++) {
                String call = "entry(" + i + ", " + j + ")";
                due.due(call, ask(x, call), number(numbers[j]));
            }
        }
    }

    private static List<String> steps(String text) {
        List<String> found = new ArrayList<>();
        boolean quoted = false;
        int from = 0;
        for (int at = 0; at <= text.length(); at++) {
            boolean ends = at == text.length() || !quoted && text.charAt(at) == ';';
            if (ends) {
                String step = text.substring(from, at).trim();
                if (!step.isEmpty()) {
                    found.add(step);
                }
                from = at + 1;
            } else if (text.charAt(at) == '\'') {
                quoted = !quoted;
            }
        }
        return found;
    }
}
