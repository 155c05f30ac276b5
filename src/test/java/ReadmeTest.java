import java.io.ByteArrayOutputStream;
import java.io.File;
import java.io.IOException;
import java.io.PrintStream;
import java.lang.reflect.Method;
import java.lang.reflect.Modifier;
import java.net.URL;
import java.net.URLClassLoader;
import java.nio.file.Files;
import java.nio.file.Path;
import java.util.ArrayList;
import java.util.List;
import java.util.regex.Matcher;
import java.util.regex.Pattern;
import javax.tools.ToolProvider;

/** README.md, read in the directory that the test is run in: its example and what it names. */
public final class ReadmeTest {
    private static final Pattern PRINTS = Pattern.compile("\\s*System\\.out\\.println\\(.*\\);\\s*(.*)");
    private static final Pattern DUE = Pattern.compile("// ([^\\s:]+)(: .*)?");

    private ReadmeTest() {
    }

    public static void main(String[] args) throws Exception {
        List<String> readme = Files.readAllLines(Path.of("README.md"));
        exampleAnswersAsItSays(exampleOf(readme));
        everyCallIsNamed(String.join("\n", readme));
        everyTestIsNamed(String.join("\n", readme));
        Check.end();
    }

    private static List<String> exampleOf(List<String> readme) {
        int begin = readme.indexOf("```java");
        int end = begin + readme.subList(begin + 1, readme.size()).indexOf("```") + 1;
        Check.same("that there is an example", begin >= 0 && end > begin, true);
        return readme.subList(begin + 1, end);
    }

    private static void exampleAnswersAsItSays(List<String> example) throws Exception {
        List<String> due = new ArrayList<>();
        for (String line : example) {
            Matcher prints = PRINTS.matcher(line);
            if (prints.matches()) {
                Matcher told = DUE.matcher(prints.group(1));
                Check.same("that it is told what is printed by" + line, told.matches(), true);
                due.add(told.matches() ? told.group(1) : "");
            }
        }
        List<String> printed = printedBy(example);
        Check.same("the example's lines", printed.size(), due.size());
        for (int i = 0; i < Math.min(due.size(), printed.size()); i++) {
            Check.same("line " + i + " of the example", printed.get(i), due.get(i));
        }
    }

    private static List<String> printedBy(List<String> example) throws Exception {
        Path place = Files.createTempDirectory("readme");
        try {
            Path source = Files.write(place.resolve("Example.java"), example);
            int compiled = ToolProvider.getSystemJavaCompiler().run(null, System.out, System.out,
                    "-d", place.toString(), "-cp", System.getProperty("java.class.path"), source.toString());
            Check.same("compiling the example", compiled, 0);
            return compiled == 0 ? run(place) : List.of();
        } finally {
            empty(place);
        }
    }

    private static List<String> run(Path place) throws Exception {
        PrintStream screen = System.out;
        ByteArrayOutputStream printed = new ByteArrayOutputStream();
        try (URLClassLoader loader = new URLClassLoader(new URL[] {place.toUri().toURL()})) {
            System.setOut(new PrintStream(printed, true));
            loader.loadClass("Example").getMethod("main", String[].class).invoke(null, (Object) new String[0]);
        } finally {
            System.setOut(screen);
        }
        return printed.toString().lines().toList();
    }

    private static void empty(Path place) throws IOException {
        for (File file : place.toFile().listFiles()) {
            Files.delete(file.toPath());
        }
        Files.delete(place);
    }

    private static void everyCallIsNamed(String readme) {
        for (Method call : DefaultFund.class.getDeclaredMethods()) {
            if (Modifier.isPublic(call.getModifiers())) {
                Check.same("that README.md names " + call.getName(),
                        readme.contains("`" + call.getName() + "("), true);
            }
        }
    }

    private static void everyTestIsNamed(String readme) {
        for (String file : new File("src/test/java").list()) {
            String name = file.replace(".java", "");
            Check.same("that README.md names " + name, readme.contains("`" + name + "`"), true);
        }
    }
}
