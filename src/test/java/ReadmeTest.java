import java.lang.reflect.Field;
import java.lang.reflect.Method;
import java.lang.reflect.Modifier;
import java.nio.file.DirectoryStream;
import java.nio.file.Files;
import java.nio.file.Path;
import java.util.ArrayList;
import java.util.List;
import java.util.Set;
import java.util.TreeSet;
import java.util.regex.Matcher;
import java.util.regex.Pattern;

/** README.md: its examples answer as it says, and it names each call, each code and each test as it is. */
public final class ReadmeTest {
    private static final String FIRST = "KnotColours k = new KnotColours();";
    private static final Pattern CALL = Pattern.compile("k\\.(\\w+)\\((.*?)\\); +// (-?\\w+)\\b.*");
    private static final Pattern CODE = Pattern.compile("\\| `(\\w+)` \\| (-?\\d+) \\|.*");
    private static final Pattern TEST_NAME = Pattern.compile("\\w+Test\\b");

    private static int asked = 0;
    private static int wrong = 0;

    public static void main(String[] args) throws Exception {
        List<String> lines = Files.readAllLines(Path.of("README.md"));
        Set<String> called = runExamples(lines);
        Set<String> due = new TreeSet<>();
        for (Method m : KnotColours.class.getDeclaredMethods()) {
            if (Modifier.isPublic(m.getModifiers())) {
                due.add(m.getName());
            }
        }
        same("the calls of the examples", called, due);
        same("the codes", codesOf(lines), codesOfClass());
        same("the tests", testsOf(lines), testsOfFolder());
        System.out.println(asked + " statements of README.md, " + wrong + " of them do not hold");
        if (wrong != 0 || asked == 0) {
            System.exit(1);
        }
    }

    /** Makes the calls of all examples, each example on a new object; answers the names of the calls. */
    private static Set<String> runExamples(List<String> lines) throws Exception {
        Set<String> called = new TreeSet<>();
        KnotColours k = null;
        boolean inside = false;
        for (int i = 0; i < lines.size(); i++) {
            String line = lines.get(i);
            if (line.startsWith("```")) {
                inside = line.equals("```java");
            } else if (inside && line.equals(FIRST)) {
                k = new KnotColours();
            } else if (inside) {
                called.add(runCall(k, i + 1, line));
            }
        }
        return called;
    }

    private static String runCall(KnotColours k, int number, String line) throws Exception {
        Matcher call = CALL.matcher(line);
        if (k == null || !call.matches()) {
            same("line " + number, line, "a call with its answer behind " + FIRST);
            return line;
        }
        String name = call.group(1);
        List<Object> values = new ArrayList<>();
        List<Class<?>> types = new ArrayList<>();
        // a comma between quotes is a character of the text
        for (String value : call.group(2).split(", ")) {
            if (!value.isEmpty()) {
                values.add(value.charAt(0) == '\'' ? value.charAt(1) : Integer.parseInt(value));
                types.add(int.class);
            }
        }
        Method method = KnotColours.class.getMethod(name, types.toArray(new Class<?>[0]));
        Object answer = method.invoke(k, values.toArray());
        same("line " + number + ": " + name, answer.toString(), numberOf(call.group(3)));
        return name;
    }

    private static String numberOf(String told) throws Exception {
        return told.matches("-?\\d+") ? told : KnotColours.class.getField(told).get(null).toString();
    }

    private static Set<String> codesOf(List<String> lines) {
        Set<String> codes = new TreeSet<>();
        for (String line : lines) {
            Matcher code = CODE.matcher(line);
            if (code.matches()) {
                codes.add(code.group(1) + " = " + code.group(2));
            }
        }
        return codes;
    }

    private static Set<String> codesOfClass() throws Exception {
        Set<String> codes = new TreeSet<>();
        for (Field f : KnotColours.class.getFields()) {
            codes.add(f.getName() + " = " + f.getInt(null));
        }
        return codes;
    }

    private static Set<String> testsOf(List<String> lines) {
        Set<String> tests = new TreeSet<>();
        for (String line : lines) {
            Matcher name = TEST_NAME.matcher(line);
            while (name.find()) {
                tests.add(name.group());
            }
        }
        return tests;
    }

    private static Set<String> testsOfFolder() throws Exception {
        Set<String> tests = new TreeSet<>();
        try (DirectoryStream<Path> files = Files.newDirectoryStream(Path.of("src/test/java"), "*Test.java")) {
            for (Path file : files) {
                tests.add(file.getFileName().toString().replace(".java", ""));
            }
        }
        return tests;
    }

    private static void same(String what, Object got, Object want) {
        asked++;
        if (!got.equals(want)) {
            wrong++;
            System.out.println(what + ": " + got + ", due is " + want);
        }
    }
}
