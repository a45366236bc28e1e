import java.io.ByteArrayOutputStream;
import java.io.IOException;
import java.io.PrintStream;
import java.lang.reflect.Method;
import java.lang.reflect.Modifier;
import java.net.URL;
import java.net.URLClassLoader;
import java.nio.file.Files;
import java.nio.file.Path;
import java.util.Comparator;
import java.util.HashSet;
import java.util.List;
import java.util.Set;
import java.util.TreeSet;
import java.util.regex.Matcher;
import java.util.regex.Pattern;
import java.util.stream.Stream;
import javax.tools.ToolProvider;

/** README.md is true: its program prints what it says, its table names each call, its commands are well-formed. */
public final class ReadmeTests {
    private static final Path README = Path.of("README.md");
    private static final String LEDGER = "src/main/java/TheatreLedger.java";
    private static final String PROGRAM = "Evening";
    private static final Set<String> KEYWORDS =
            Set.of("post", "back", "open", "buy", "sell", "bill", "pay", "wait", "curtain");
    private static int wrong = 0;

    public static void main(String[] args) throws IOException, ReflectiveOperationException {
        String readme = Files.readString(README);
        checkProgram(block(readme, "```java\n"), block(readme, "```text\n"));
        checkTable(readme);
        checkCommands(block(readme.substring(readme.indexOf("### The text commands")), "```\n"));
        System.out.println(wrong == 0 ? "the README is true" : wrong + " faults in the README");
        if (wrong != 0) {
            System.exit(1);
        }
    }

    private static void need(boolean holds, String what) {
        if (!holds) {
            wrong++;
            System.out.println("not so: " + what);
        }
    }

    private static String block(String text, String opening) {
        int start = text.indexOf(opening);
        int end = start < 0 ? -1 : text.indexOf("```", start + opening.length());
        need(end >= 0, "there is a block that begins with " + opening);
        return end < 0 ? "" : text.substring(start + opening.length(), end);
    }

    private static void checkProgram(String program, String due) throws IOException, ReflectiveOperationException {
        Path directory = Files.createTempDirectory("readme");
        try {
            Path source = Files.writeString(directory.resolve(PROGRAM + ".java"), program);
            int code = ToolProvider.getSystemJavaCompiler()
                    .run(null, null, null, "-d", directory.toString(), LEDGER, source.toString());
            need(code == 0, "the program can be compiled");
            if (code == 0) {
                String printed = printedBy(directory);
                need(printed.equals(due), "the program prints the block below it; it prints:\n" + printed);
            }
        } finally {
            remove(directory);
        }
    }

    private static String printedBy(Path classes) throws IOException, ReflectiveOperationException {
        PrintStream usual = System.out;
        ByteArrayOutputStream printed = new ByteArrayOutputStream();
        // Without the test's own classes as parent, so that the program meets the class that was compiled with it.
        ClassLoader parent = ClassLoader.getPlatformClassLoader();
        try (URLClassLoader loader = new URLClassLoader(new URL[] {classes.toUri().toURL()}, parent);
                PrintStream catching = new PrintStream(printed)) {
            System.setOut(catching);
            loader.loadClass(PROGRAM).getMethod("main", String[].class).invoke(null, (Object) new String[0]);
        } finally {
            System.setOut(usual);
        }
        return printed.toString().replace(System.lineSeparator(), "\n");
    }

    private static void remove(Path directory) throws IOException {
        try (Stream<Path> found = Files.walk(directory)) {
            List<Path> deepestFirst = found.sorted(Comparator.reverseOrder()).toList();
            for (Path path : deepestFirst) {
                Files.delete(path);
            }
        }
    }

    private static void checkTable(String readme) {
        Set<String> named = new TreeSet<>();
        for (String line : readme.split("\n")) {
            Matcher name = Pattern.compile("`(\\w+)`").matcher(line);
            while (line.startsWith("|") && name.find()) {
                need(named.add(name.group(1)), "the table names each call once: " + name.group(1));
            }
        }
        Set<String> due = new TreeSet<>();
        for (Method method : TheatreLedger.class.getDeclaredMethods()) {
            if (Modifier.isPublic(method.getModifiers())) {
                due.add(method.getName());
            }
        }
        need(named.equals(due), "the table names the calls of the class; it names " + named);
    }

    private static void checkCommands(String lines) {
        Set<String> keywords = new HashSet<>();
        for (String line : lines.split("\n")) {
            String command = line.split(" {2,}")[0];
            keywords.add(command.split(" ")[0]);
            need(isWellFormed(command), "this command is well-formed: " + command);
        }
        need(keywords.equals(KEYWORDS), "the list has each keyword; it has " + keywords);
    }

    private static boolean isWellFormed(String command) {
        TheatreLedger books = new TheatreLedger();
        for (char character : command.toCharArray()) {
            books.feed(character);
        }
        try {
            books.runCommands();
        } catch (IllegalArgumentException malformed) {
            return false;
        } catch (UnsupportedOperationException failed) {
            return true;
        }
        return true;
    }
}
