import java.nio.file.Files;
import java.nio.file.Path;
import java.util.List;
import java.util.regex.Matcher;
import java.util.regex.Pattern;

/** The source keeps to the rules of the language, as far as its text shows; .ci/run starts it in the project's folder. */
public final class RulesTest {
    private static final String[] WORDS = {"throw", "throws", "try", "catch", "synchronized", "assert", "import", "package",
        "protected", "native", "transient", "volatile", "Object", "Exception"};
    private static final Pattern HEAD = Pattern.compile("^ +(?:[a-z]+ )*[\\w\\[\\]]+ ?\\w*\\((.*)\\) \\{$");

    public static void main(String[] args) throws Exception {
        Due due = new Due("RulesTest");
        List<String> lines = Files.readAllLines(Path.of("src/main/java/SpoonPassage.java"));
        int start = -1;
        for (int i = 0; i < lines.size(); i++) {
            String line = lines.get(i);
            String at = "line " + (i + 1) + " ";
            due.holds(at + "has signs of 1 to 127 alone", line.chars().allMatch(c -> c < 128));
            String code = line.replaceAll("/\\*\\*.*\\*/|//.*", "").replaceAll("\"[^\"]*\"", "\"\"");
            for (String word : WORDS) {
                due.holds(at + "is without " + word, !Pattern.compile("\\b" + word + "\\b").matcher(code).find());
            }
            due.holds(at + "is without lambdas and method references", !code.contains("->") && !code.contains("::"));
            due.holds(at + "joins no text by +", !code.contains("\"\" +") && !code.contains("+ \"\""));
            due.holds(at + "makes an object in a constructor only", !code.contains("new ") || !code.contains("return"));
            Matcher head = HEAD.matcher(code);
            if (head.find() && !code.matches(" +(if|for|while|switch|\\} else if) \\(.*")) {
                due.holds(at + "takes at most seven", head.group(1).split(",").length <= 7);
                start = i;
            }
            if (line.matches(" {4,8}\\}") && start >= 0) {
                due.holds("the method of line " + (start + 1) + " is short", i - start <= 60);
                start = -1;
            }
        }
        due.holds("methods were found", start == -1);
        due.end();
    }
}
