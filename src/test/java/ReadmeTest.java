import java.io.IOException;
import java.lang.reflect.Method;
import java.lang.reflect.Modifier;
import java.nio.file.Files;
import java.nio.file.Path;
import java.util.regex.Matcher;
import java.util.regex.Pattern;

/** What README.md says of the class's use: its example answers so, and it names every call with its parameters. */
public final class ReadmeTest {
    private static final Pattern EXAMPLE = Pattern.compile("(?m)^bank\\.(\\w+)\\((.*?)\\); *// (-?\\d+|[A-Z]+):");
    private static final Script SCRIPT = new Script("ReadmeTest");

    public static void main(String[] args) throws IOException {
        String readme = Files.readString(Path.of("README.md"));
        example(readme);
        names(readme);
        texts(readme);
        SCRIPT.due("README", "how to run the tests", readme.contains(".ci/run") ? 1 : 0, 1);
        SCRIPT.end();
    }

    private static void example(String readme) {
        StringBuilder run = new StringBuilder();
        Matcher rows = EXAMPLE.matcher(readme);
        while (rows.find()) {
            run.append(rows.group(1)).append(' ').append(rows.group(2).replace(",", ""))
                    .append(" = ").append(rows.group(3)).append('\n');
        }
        SCRIPT.due("README", "rows that begin with bank.", run.toString().lines().count(),
                readme.lines().filter(line -> line.startsWith("bank.")).count());
        SCRIPT.run("README's example", run.toString());
    }

    private static void names(String readme) {
        for (Method method : HornRocks.class.getDeclaredMethods()) {
            if (Modifier.isPublic(method.getModifiers())) {
                int parameters = method.getParameterCount();
                String told = parameters == 0 ? "" : "\\w+" + ", \\w+".repeat(parameters - 1);
                boolean found = Pattern.compile("`" + method.getName() + "\\(" + told + "\\)`").matcher(readme).find();
                SCRIPT.due("README", "names " + method.getName(), found ? 1 : 0, 1);
            }
        }
    }

    private static void texts(String readme) {
        Matcher text = Pattern.compile("`(maid at [a-z0-9; ]*)`").matcher(readme);
        SCRIPT.due("README", "has a text", text.find() ? 1 : 0, 1);
        SCRIPT.run("README's text", "tape " + text.group(1) + "\nchart = 2\nof 0 2 = 30\nof 0 4 = 1\nnow 2 = 7\nnow 3 = 1");
    }
}
