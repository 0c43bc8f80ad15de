import java.lang.reflect.Constructor;
import java.lang.reflect.Executable;
import java.lang.reflect.Field;
import java.lang.reflect.Method;
import java.lang.reflect.Modifier;
import java.nio.file.Files;
import java.nio.file.Path;
import java.util.ArrayList;
import java.util.Arrays;
import java.util.List;
import java.util.Set;
import java.util.regex.Matcher;
import java.util.regex.Pattern;

/** Those rules of ../shared/LANGUAGE.md that a search in the program's text or in its classes can see. */
public final class LanguageTest {
    private static final String[] FORBIDDEN = {
        "\\b(throw|throws|try|catch|finally|synchronized|assert|package|import|native|volatile|record|protected)\\b",
        "->", "::", "\\b\\w+Exact\\b", "\\bnew\\s+\\w+\\s*\\([^)]*\\)\\s*\\{",
        "\\b(System\\.(?!arraycopy)\\w+|Random|Thread|Runtime|Object|Class|Map|Set)\\b",
        "\\b(equals|hashCode|toString)\\b", "(?<![\\w])static\\s*\\{",
        "\\bMath\\.(?!(abs|max|min|floorDiv|floorMod)\\b)\\w+",
        "\\bInteger\\.(?!(bitCount|compare|max|min)\\b)\\w+", "\\bLong\\.\\w+", "\\b(double|float)\\b"};
    private static final Set<Class<?>> CONSTANT_TYPES = Set.of(int.class, long.class, boolean.class, char.class,
            String.class, int[].class, long[].class, char[].class, byte[].class);
    private static final int MOST_CLASSES = 12;
    private static final int MOST_FIELDS = 20;
    private static final int MOST_PARAMETERS = 7;
    private static final int MOST_METHOD_LINES = 60;

    private static int breaches = 0;

    public static void main(String[] args) throws Exception {
        List<String> lines = Files.readAllLines(Path.of("src/main/java/KnotColours.java"));
        searchLines(lines);
        measureMethods(lines);
        List<Class<?>> classes = new ArrayList<>(Arrays.asList(KnotColours.class.getDeclaredClasses()));
        for (Class<?> inside : classes) {
            if (!Modifier.isStatic(inside.getModifiers()) || inside.getDeclaredClasses().length > 0) {
                breach("rule 2: " + inside.getName());
            }
        }
        classes.add(KnotColours.class);
        if (classes.size() > MOST_CLASSES) {
            breach("rule 11: " + classes.size() + " classes");
        }
        for (Class<?> each : classes) {
            lookAtFields(each);
            lookAtParameters(each);
        }
        System.out.println(lines.size() + " lines, " + breaches + " breaches of the language's rules");
        if (breaches != 0 || lines.isEmpty()) {
            System.exit(1);
        }
    }

    private static void breach(String what) {
        breaches++;
        System.out.println(what);
    }

    private static String codeOf(String line) {
        return line.replaceAll("//.*|/\\*.*\\*/", "");
    }

    private static void searchLines(List<String> lines) {
        for (int number = 1; number <= lines.size(); number++) {
            String line = lines.get(number - 1);
            for (String pattern : FORBIDDEN) {
                Matcher matcher = Pattern.compile(pattern).matcher(codeOf(line));
                if (matcher.find()) {
                    breach("line " + number + ": " + matcher.group());
                }
            }
            if (!line.chars().allMatch(c -> c >= 32 && c < 127)) {
                breach("line " + number + " has a sign that is not plain");
            }
        }
    }

    /** A method begins with a line that ends with ") {" and ends with a "}" as far to the right. */
    private static void measureMethods(List<String> lines) {
        Pattern head = Pattern.compile("( {4}| {8})[\\w\\[\\]]+ [^=;]*\\) \\{");
        int methods = 0;
        for (int start = 0; start < lines.size(); start++) {
            Matcher begin = head.matcher(codeOf(lines.get(start)));
            if (begin.matches() && !lines.get(start).matches(" *(if|for|while|switch) .*")) {
                methods++;
                int end = start;
                while (end < lines.size() && !lines.get(end).equals(begin.group(1) + "}")) {
                    end++;
                }
                if (end - start >= MOST_METHOD_LINES) {
                    breach("rule 11: a long method in line " + (start + 1));
                }
            }
        }
        if (methods == 0) {
            breach("no method is seen");
        }
    }

    private static void lookAtFields(Class<?> where) {
        int fields = 0;
        for (Field f : where.getDeclaredFields()) {
            if (!Modifier.isStatic(f.getModifiers())) {
                fields++;
            } else if (!Modifier.isFinal(f.getModifiers()) || !CONSTANT_TYPES.contains(f.getType())) {
                breach("rule 5: " + where.getName() + "." + f.getName());
            }
        }
        if (fields > MOST_FIELDS) {
            breach("rule 11: " + fields + " fields in " + where.getName());
        }
    }

    private static void lookAtParameters(Class<?> where) {
        List<Executable> all = new ArrayList<>();
        for (Method m : where.getDeclaredMethods()) {
            all.add(m);
        }
        for (Constructor<?> c : where.getDeclaredConstructors()) {
            all.add(c);
        }
        for (Executable e : all) {
            if (e.getParameterCount() > MOST_PARAMETERS) {
                breach("rule 11: the parameters of " + where.getName() + "." + e.getName());
            }
        }
    }
}
