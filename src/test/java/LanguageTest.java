import java.nio.file.Files;
import java.nio.file.Path;
import java.util.List;
import java.util.regex.Matcher;
import java.util.regex.Pattern;

/** Those rules of ../shared/LANGUAGE.md that a search in the program's text can see. */
public final class LanguageTest {
    private static final String[] FORBIDDEN = {
        "\\b(throw|throws|try|catch|finally|synchronized|assert|package|import|native|volatile|record|protected)\\b",
        "->", "::", "\\b\\w+Exact\\b", "\\bnew\\s+\\w+\\s*\\([^)]*\\)\\s*\\{",
        "\\b(System\\.(?!arraycopy)\\w+|Random|Thread|Runtime|Object|Class|Map|Set)\\b",
        "\\b(equals|hashCode|toString)\\b", "(?<![\\w])static\\s*\\{"};

    public static void main(String[] args) throws Exception {
        List<String> lines = Files.readAllLines(Path.of("src/main/java/KnotColours.java"));
        int wrong = 0;
        for (int number = 1; number <= lines.size(); number++) {
            String line = lines.get(number - 1);
            String code = line.replaceAll("//.*|/\\*.*\\*/", "");
            for (String pattern : FORBIDDEN) {
                Matcher matcher = Pattern.compile(pattern).matcher(code);
                if (matcher.find()) {
                    wrong++;
                    System.out.println("line " + number + ": " + matcher.group());
                }
            }
            if (!line.chars().allMatch(c -> c >= 32 && c < 127)) {
                wrong++;
                System.out.println("line " + number + " has a sign that is not plain");
            }
        }
        System.out.println(lines.size() + " lines, " + wrong + " breaches of the language's rules");
        if (wrong != 0 || lines.isEmpty()) {
            System.exit(1);
        }
    }
}
