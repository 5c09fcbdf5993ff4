import java.lang.reflect.Constructor;
import java.lang.reflect.Field;
import java.lang.reflect.Method;
import java.lang.reflect.Modifier;
import java.nio.file.Files;
import java.nio.file.Path;
import java.util.Set;
import java.util.TreeSet;
import java.util.regex.Matcher;
import java.util.regex.Pattern;

/** The class has the document's public face and no more, and its file keeps to LANGUAGE.md where a search can tell. */
public final class FaceTest {
    private static final String[] METHODS = {
        "int prime(int)", "int type(int)", "int matrix()", "int line(int)", "int right(int)", "int entry(int,int)",
        "int count(int)", "int change(int,int)", "int put(int,int)", "int shape(int)", "int widen()", "int cut()",
        "int turn()", "int drift(int)", "int undo()", "int seed(int)", "int corner(int)", "int leap(int)",
        "long solved(int)", "int inverse(int,int)", "int weak(int,int)", "int mend(int)", "int term(int)",
        "int next(int)", "long wiped(int,int)", "int image()", "int restore()", "int came(int,int,int)",
        "int apply(int,int,int)", "int film(int,int,int)", "int sheet(int,int,int)", "int drop(int)",
        "int item(int,int,int,long)", "int copy(int,int,int,int,int)"};
    private static final String[] CONSTANTS = {"BAD", "NOT", "FULL", "NONE", "NULL", "CAST", "INDEX", "SIZE"};
    private static final int[] VALUES = {-1, -2, -3, -4, -11, -12, -13, -14};
    private static final Set<String> LIBRARY = Set.of("Integer.bitCount", "Math.abs", "Math.min", "System.arraycopy");
    private static final String[] BARRED = {"import ", "->", "::", "catch", "finally", "throw", "synchronized",
        "assert", "static {", "float", "double", "instanceof", "lambda", "System.out", "Exact("};

    public static void main(String[] args) throws Exception {
        Check check = new Check();
        Class<?> type = LeanDiagonals.class;
        check.due("the class's modifiers", type.getModifiers(), Modifier.PUBLIC | Modifier.FINAL);
        checkConstructors(check, type);
        checkFields(check, type);
        checkMethods(check, type);
        for (Class<?> inside : type.getDeclaredClasses()) {
            check.due(inside.getName() + " is static", Modifier.isStatic(inside.getModifiers()) ? 1 : 0, 1);
            check.due(inside.getName() + " is public", Modifier.isPublic(inside.getModifiers()) ? 1 : 0, 0);
            checkState(check, inside);
        }
        checkState(check, type);
        check.due("twelve classes at most", type.getDeclaredClasses().length < 12 ? 1 : 0, 1);
        checkSource(check, Path.of(args.length > 0 ? args[0] : ".").resolve("src/main/java/LeanDiagonals.java"));
        check.close("FaceTest");
    }

    private static void checkConstructors(Check check, Class<?> type) {
        Constructor<?>[] made = type.getDeclaredConstructors();
        check.due("constructors", made.length, 1);
        check.due("constructor's modifiers", made[0].getModifiers(), Modifier.PUBLIC);
        check.due("constructor's parameters", made[0].getParameterCount(), 0);
    }

    private static void checkFields(Check check, Class<?> type) throws Exception {
        int open = 0;
        for (Field field : type.getDeclaredFields()) {
            open += Modifier.isPrivate(field.getModifiers()) || field.isSynthetic() ? 0 : 1;
        }
        check.due("constants", open, CONSTANTS.length);
        for (int i = 0; i < CONSTANTS.length; i++) {
            Field field = type.getField(CONSTANTS[i]);
            check.due(CONSTANTS[i] + "'s modifiers", field.getModifiers(),
                Modifier.PUBLIC | Modifier.STATIC | Modifier.FINAL);
            check.due(CONSTANTS[i], field.getInt(null), VALUES[i]);
        }
    }

    /** Static fields are final, and a class has some twenty others at most. */
    private static void checkState(Check check, Class<?> type) {
        int others = 0;
        for (Field field : type.getDeclaredFields()) {
            if (Modifier.isStatic(field.getModifiers())) {
                check.due(field + " is final", Modifier.isFinal(field.getModifiers()) ? 1 : 0, 1);
            } else {
                others++;
            }
        }
        check.due(type.getName() + " has twenty fields at most", others <= 20 ? 1 : 0, 1);
    }

    private static void checkMethods(Check check, Class<?> type) {
        TreeSet<String> due = new TreeSet<>(java.util.List.of(METHODS));
        TreeSet<String> names = new TreeSet<>();
        for (Method method : type.getDeclaredMethods()) {
            if (!Modifier.isPrivate(method.getModifiers()) && !method.isSynthetic()) {
                String told = tell(method);
                check.due("the document has " + told, due.remove(told) ? 1 : 0, 1);
                check.due(told + "'s modifiers", method.getModifiers(), Modifier.PUBLIC);
                names.add(method.getName());
            }
        }
        check.due("missing " + due, due.size(), 0);
        for (Method method : type.getDeclaredMethods()) {
            if (Modifier.isPrivate(method.getModifiers())) {
                check.due("private " + method.getName() + " bears a public name",
                    names.contains(method.getName()) ? 1 : 0, 0);
            }
            check.due(method.getName() + " takes seven at most", method.getParameterCount() <= 7 ? 1 : 0, 1);
        }
    }

    private static String tell(Method method) {
        StringBuilder told = new StringBuilder();
        told.append(method.getReturnType().getName()).append(' ').append(method.getName()).append('(');
        for (Class<?> parameter : method.getParameterTypes()) {
            told.append(told.charAt(told.length() - 1) == '(' ? "" : ",").append(parameter.getName());
        }
        return told.append(')').toString();
    }

    private static void checkSource(Check check, Path file) throws Exception {
        String source = Files.readString(file).replaceAll("(?s)/\\*.*?\\*/", "").replaceAll("//[^\n]*", "");
        for (String word : BARRED) {
            check.due("the file has '" + word + "'", source.contains(word) ? 1 : 0, 0);
        }
        Matcher used = Pattern.compile("\\b([A-Z][A-Za-z]+)\\.(\\w+)").matcher(source);
        while (used.find()) {
            check.due("the library has " + used.group(), LIBRARY.contains(used.group()) ? 1 : 0, 1);
        }
        checkBodies(check, source.split("\n"));
    }

    /** A method begins with a line that ends in ") {" and ends with a brace as far in as that line. */
    private static void checkBodies(Check check, String[] lines) {
        int methods = 0;
        for (int from = 0; from < lines.length; from++) {
            if (lines[from].matches(" {4,8}[a-zA-Z].*\\) \\{") && !lines[from].matches(" +(if|for|while|switch|do) .*")) {
                String end = lines[from].replaceAll("[^ ].*", "") + "}";
                int to = from;
                boolean isConstructor = lines[from].matches(" +(public )?[A-Z]\\w*\\(.*");
                while (to < lines.length && !lines[to].equals(end)) {
                    boolean makes = !isConstructor && lines[to].matches(".*\\bnew .*");
                    check.due("no call makes an object:" + lines[to], makes ? 1 : 0, 0);
                    to++;
                }
                methods++;
                check.due("sixty lines at most:" + lines[from], to - from < 60 ? 1 : 0, 1);
            }
        }
        check.due("methods were found", methods > 50 ? 1 : 0, 1);
    }
}
