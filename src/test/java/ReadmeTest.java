import java.io.ByteArrayOutputStream;
import java.io.IOException;
import java.io.PrintStream;
import java.nio.file.Files;
import java.nio.file.Path;
import java.util.List;
import java.util.TreeSet;
import java.util.regex.Matcher;
import java.util.regex.Pattern;

/** README.md: the program it shows is Example.java, which answers as it says, and each call of the face is named. */
public final class ReadmeTest {
    public static void main(String[] args) throws IOException {
        String readme = Files.readString(Path.of("README.md"));
        String example = Files.readString(Path.of("src/test/java/Example.java"));
        String program = example.substring(example.indexOf("public final class"));
        Checks.due("README.md shows Example.java", 1, readme.contains("```java\n" + program + "```\n") ? 1 : 0);
        answersAreAsTold(program);
        callsAreNamed(readme.replace(program, ""));
        Checks.finish();
    }

    private static void answersAreAsTold(String program) {
        List<String> answers = answersOfExample().lines().toList();
        Matcher m = Pattern.compile("\\n +say\\((.*)\\); // (-?\\d+)").matcher(program);
        int n = 0;
        for (; m.find() && n < answers.size(); n++) {
            Checks.due("Example: " + m.group(1), Long.parseLong(m.group(2)), Long.parseLong(answers.get(n)));
        }
        Checks.due("each answer is told", answers.size(), n);
        Checks.due("each answer is given", answers.size(), program.split("\\n +say\\(", -1).length - 1);
    }

    private static String answersOfExample() {
        PrintStream out = System.out;
        ByteArrayOutputStream told = new ByteArrayOutputStream();
        System.setOut(new PrintStream(told, true));
        Example.main(new String[0]);
        System.setOut(out);
        return told.toString();
    }

    private static void callsAreNamed(String text) {
        TreeSet<String> names = new TreeSet<>();
        for (java.lang.reflect.Method m : TallBins.class.getMethods()) {
            if (m.getDeclaringClass() == TallBins.class) {
                names.add(m.getName());
            }
        }
        for (String name : names) {
            Checks.due("README.md names " + name, 1, text.contains("`" + name + "(") ? 1 : 0);
        }
    }
}
