import java.io.IOException;
import java.lang.reflect.Method;
import java.lang.reflect.Modifier;
import java.nio.file.DirectoryStream;
import java.nio.file.Files;
import java.nio.file.Path;
import java.util.HashSet;
import java.util.Set;
import java.util.TreeSet;

/** What the README says holds: its example, its table of the methods, and that all tests are run. */
final class ReadmeTest {
    /** Word by word what the README shows, so that neither it nor the test below can change alone. */
    private static final String EXAMPLE = """
            FilterWaterworks works = new FilterWaterworks();
            int high = works.addTank(100);
            int low = works.addTank(50);
            int pipe = works.addPipe(high, low, 0b11);   // its filter holds back 'a' and 'b'
            works.pour(high, 90, 0b111);                 // 90 litres with 'a', 'b' and 'c'
            works.setValve(pipe, 4);
            works.advance(1);                            // 20 litres flow
            works.content(low);                          // 20
            works.impurities(low);                       // 4, which is 'c'
            works.undo();                                // the minute has not passed
            for (char character : "draw 0 10;wait 2".toCharArray()) {
                works.type(character);
            }
            works.runScript();                           // 2 commands, which are one change
            int length = works.renderPipe(pipe);         // 10
            works.outputAt(length - 1);                  // '*', as the pipe is a bridge: the text is "0:0-1v4d4*"
            """;

    private ReadmeTest() {
    }

    private static Path root() {
        return Path.of(System.getProperty("root", "."));
    }

    private static String readme() throws IOException {
        return Files.readString(root().resolve("README.md"));
    }

    static void wholeExampleStandsInReadme() throws IOException {
        Check.due("the README has the example", true, readme().contains("```java\n" + EXAMPLE + "```\n"));
    }

    static void wholeTableNamesEveryMethod() throws IOException {
        Set<String> methods = new TreeSet<>();
        for (Method method : FilterWaterworks.class.getDeclaredMethods()) {
            if (Modifier.isPublic(method.getModifiers())) {
                methods.add(method.getName());
            }
        }
        Set<String> named = new TreeSet<>();
        for (String line : readme().split("\n")) {
            String[] columns = line.split("\\|");
            if (line.startsWith("| `") && columns.length > 1) {
                for (String name : columns[1].strip().split(", ")) {
                    named.add(name.replace("`", ""));
                }
            }
        }
        Check.due("methods in the README's table", methods, named);
    }

    static void wholeListOfTestClasses() throws IOException {
        Set<String> run = new HashSet<>();
        for (Class<?> tests : AllTests.CLASSES) {
            run.add(tests.getSimpleName());
        }
        try (DirectoryStream<Path> files = Files.newDirectoryStream(root().resolve("src/test/java"), "?*{Test,Edges}.java")) {
            for (Path file : files) {
                String name = file.getFileName().toString().replace(".java", "");
                Check.due(name + " is run", true, run.contains(name));
            }
        }
    }

    static void wholeExample() {
        FilterWaterworks works = new FilterWaterworks();
        int high = works.addTank(100);
        int low = works.addTank(50);
        int pipe = works.addPipe(high, low, 0b11);
        works.pour(high, 90, 0b111);
        works.setValve(pipe, 4);
        int flow = works.flow(pipe);
        works.advance(1);
        Check.due("litres that flow", 20, flow);
        Check.due("content", 20, works.content(low));
        Check.due("impurities", 4, works.impurities(low));
        works.undo();
        Check.due("time", 0, works.time());
        Check.due("commands", 2, Check.run(works, "draw 0 10;wait 2"));
        int length = works.renderPipe(pipe);
        Check.due("length", 10, length);
        Check.due("last character", '*', works.outputAt(length - 1));
        Check.due("text", "0:0-1v4d4*", Check.output(works, length));
        int left = works.undo();
        Check.due("the script was one change, after 5 others", 5, left);
        Check.due("content before the script", 90, works.content(high));
    }
}
