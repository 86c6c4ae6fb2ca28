import java.io.IOException;
import java.lang.reflect.Method;
import java.lang.reflect.Modifier;
import java.nio.file.Files;
import java.nio.file.Path;
import java.util.ArrayList;
import java.util.Comparator;
import java.util.List;
import java.util.Map;
import java.util.Set;
import java.util.TreeMap;
import java.util.TreeSet;
import java.util.regex.Matcher;
import java.util.regex.Pattern;
import java.util.stream.Stream;

/**
 * What README.md says is so: its commands run, its example answers what it says, its tables name each call of the face
 * with its exceptions and each test. The commands run in a copy beside a link to ../shared, so nothing is left behind.
 */
public final class ReadmeTest {
    private static final Path PROJECT = Path.of("").toAbsolutePath();
    private static final Map<String, String> LETTERS = Map.of(
        "I", "IndexOutOfBoundsException", "A", "IllegalArgumentException", "S", "IllegalStateException");

    public static void main(String[] args) throws IOException, InterruptedException {
        String page = Files.readString(PROJECT.resolve("README.md"));
        eachCallWithItsExceptions(page);
        eachTest(page);
        whatItPointsToIsThere(page);
        Path room = Files.createTempDirectory("readme");
        try {
            commandsRun(page, copyOfTheProject(room));
        } finally {
            remove(room);
        }
        Check.end("ReadmeTest");
    }

    private static void eachCallWithItsExceptions(String page) {
        Map<String, String> told = new TreeMap<>();
        Matcher rows = Pattern.compile("(?m)^\\| `(\\w+)\\(([^)]*)\\)` \\|.*\\|([^|]*)\\|$").matcher(page);
        while (rows.find()) {
            told.put(rows.group(1), argumentsOf(rows.group(2)) + exceptionsOf(rows.group(3)));
        }
        Map<String, String> face = new TreeMap<>();
        for (Method method : CoveSignals.class.getDeclaredMethods()) {
            if (Modifier.isPublic(method.getModifiers())) {
                List<String> thrown = new ArrayList<>();
                for (Class<?> type : method.getExceptionTypes()) {
                    thrown.add(type.getSimpleName());
                }
                face.put(method.getName(), method.getParameterCount() + thrown.toString());
            }
        }
        Check.dueText("the calls of the tables", told.toString(), face.toString());
        for (Map.Entry<String, String> letter : LETTERS.entrySet()) {
            boolean explained = page.replace('\n', ' ').contains("**" + letter.getKey() + "**")
                && page.contains("`" + letter.getValue() + "`");
            Check.due(letter.getKey() + " is explained", explained ? 1 : 0, 1);
        }
    }

    private static int argumentsOf(String list) {
        return list.isEmpty() ? 0 : list.split(", ").length;
    }

    private static String exceptionsOf(String cell) {
        List<String> names = new ArrayList<>();
        Matcher letters = Pattern.compile("\\b([A-Z]): ").matcher(cell);
        while (letters.find()) {
            names.add(LETTERS.get(letters.group(1)));
        }
        return names.toString();
    }

    private static void eachTest(String page) throws IOException {
        Set<String> told = new TreeSet<>();
        Matcher rows = Pattern.compile("(?m)^\\| `(\\w+Test)`").matcher(page);
        while (rows.find()) {
            told.add(rows.group(1));
        }
        Set<String> there = new TreeSet<>();
        try (Stream<Path> files = Files.list(PROJECT.resolve("src/test/java"))) {
            files.map(file -> file.getFileName().toString()).filter(name -> name.endsWith("Test.java"))
                .forEach(name -> there.add(name.substring(0, name.length() - ".java".length())));
        }
        Check.dueText("the tests of the table", told.toString(), there.toString());
    }

    private static void whatItPointsToIsThere(String page) {
        for (String path : List.of("../shared/DOC.md", "../shared/tests", "src/main/java/CoveSignals.java", ".ci/run")) {
            boolean named = page.contains("`" + path) || page.contains("\n" + path + "\n");
            Check.due(path + " is named", named ? 1 : 0, 1);
            Check.due(path + " is there", Files.exists(PROJECT.resolve(path)) ? 1 : 0, 1);
        }
        Check.due(".ci/run can be run", Files.isExecutable(PROJECT.resolve(".ci/run")) ? 1 : 0, 1);
    }

    private static void commandsRun(String page, Path copy) throws IOException, InterruptedException {
        Files.writeString(copy.resolve("Example.java"), blocks(page, "java").get(0));
        List<String> commands = new ArrayList<>();
        blocks(page, "sh").forEach(block -> block.lines().forEach(commands::add));
        Check.due("commands were found: " + commands.size(), commands.size() > 4 ? 1 : 0, 1);
        int examples = 0;
        for (String command : commands) {
            if (command.equals(".ci/run")) {
                // it is what runs this test
                continue;
            }
            Path answer = copy.resolve("answer.txt");
            Process process = new ProcessBuilder("sh", "-c", command).directory(copy.toFile())
                .redirectErrorStream(true).redirectOutput(answer.toFile()).start();
            Check.due("exit code of " + command, process.waitFor(), 0);
            if (command.endsWith(" Example")) {
                Check.dueText(command, Files.readString(answer), blocks(page, "text").get(0));
                examples++;
            }
        }
        Check.due("the example was run", examples, 1);
    }

    private static List<String> blocks(String page, String kind) {
        List<String> all = new ArrayList<>();
        Matcher fences = Pattern.compile("(?s)```" + kind + "\n(.*?)```").matcher(page);
        while (fences.find()) {
            all.add(fences.group(1));
        }
        return all;
    }

    private static Path copyOfTheProject(Path room) throws IOException {
        Path copy = room.resolve("project");
        Files.createSymbolicLink(room.resolve("shared"), PROJECT.resolve("../shared").toRealPath());
        for (String part : List.of("src/main/java", "src/test/java")) {
            Files.createDirectories(copy.resolve(part));
            try (Stream<Path> files = Files.list(PROJECT.resolve(part))) {
                for (Path file : files.toList()) {
                    Files.copy(file, copy.resolve(part).resolve(file.getFileName()));
                }
            }
        }
        return copy;
    }

    private static void remove(Path room) throws IOException {
        try (Stream<Path> all = Files.walk(room)) {
            for (Path path : all.sorted(Comparator.reverseOrder()).toList()) {
                Files.delete(path);
            }
        }
    }
}
