import java.io.IOException;
import java.nio.file.Files;
import java.nio.file.Path;
import java.util.Set;
import java.util.TreeSet;
import java.util.regex.Matcher;
import java.util.regex.Pattern;

/**
 * What can be read off the source of LANGUAGE.md's rules. It is stricter than they are where the class needs no more:
 * of the library it takes only what the class uses.
 */
public final class LanguageTest {
    private static final Path SOURCE = Path.of("src/main/java/CoveSignals.java");
    private static final Set<String> LIBRARY = Set.of("Math.floorMod", "System.arraycopy");
    private static final Set<String> EXCEPTIONS =
        Set.of("IllegalStateException", "IllegalArgumentException", "IndexOutOfBoundsException");
    private static final String[] FORBIDDEN = {
        "package", "import", "try", "catch", "finally", "synchronized", "assert", "instanceof", "volatile", "transient",
        "native", "protected", "var", "yield", "equals", "hashCode", "toString", "Object", "float",
    };
    private static final int MOST_CLASSES = 12;
    private static final int MOST_LINES = 60;
    private static final int MOST_PARAMETERS = 7;

    public static void main(String[] args) throws IOException {
        String text = Files.readString(SOURCE);
        String code = withoutCommentsAndTexts(text);
        Check.due("signs 1 to 127 alone", text.chars().filter(sign -> sign < 1 || sign > 127).count(), 0);
        forbiddenWords(code);
        libraryOnlyAsListed(code);
        exceptionsByRule6(code);
        staticFieldsAreFinal(code);
        classesInside(code);
        methodsStayShort(code);
        loopsHaveABound(code);
        Check.end("LanguageTest");
    }

    private static String withoutCommentsAndTexts(String text) {
        return text.replaceAll("(?s)/\\*.*?\\*/", "").replaceAll("//[^\n]*", "").replaceAll("\"[^\"\n]*\"", "\"\"");
    }

    private static int matches(String code, String pattern) {
        int many = 0;
        Matcher matcher = Pattern.compile(pattern).matcher(code);
        while (matcher.find()) {
            many++;
        }
        return many;
    }

    private static void forbiddenWords(String code) {
        for (String word : FORBIDDEN) {
            Check.due("the word " + word, matches(code, "\\b" + word + "\\b"), 0);
        }
        Check.due("lambdas and method references", matches(code, "->|::"), 0);
        Check.due("texts joined by +", matches(code, "\"\"\\s*\\+|\\+\\s*\"\""), 0);
        Check.due("calls that end in Exact", matches(code, "Exact\\s*\\("), 0);
        Check.due("loops without an end", matches(code, "while\\s*\\(\\s*true|for\\s*\\([^;]*;\\s*;"), 0);
        Check.due("static initialiser blocks", matches(code, "static\\s*\\{"), 0);
    }

    /** A name with a capital first is the class, a class inside, a constant, an exception, or the library's. */
    private static void libraryOnlyAsListed(String code) {
        Set<String> own = new TreeSet<>(EXCEPTIONS);
        own.add("CoveSignals");
        Matcher classes = Pattern.compile("class\\s+(\\w+)").matcher(code);
        while (classes.find()) {
            own.add(classes.group(1));
        }
        Matcher names = Pattern.compile("\\b([A-Z]\\w*[a-z]\\w*)(\\.\\w+)?").matcher(code);
        while (names.find()) {
            boolean known = own.contains(names.group(1)) || LIBRARY.contains(names.group());
            Check.due("of the library: " + names.group(), known ? 1 : 0, 1);
        }
    }

    private static void exceptionsByRule6(String code) {
        Check.due("throws are of a new exception with a written text",
            matches(code, "\\bthrow\\b"), matches(code, "throw new \\w+Exception\\(\"\"\\);"));
        Matcher thrown = Pattern.compile("throw new (\\w+)").matcher(code);
        while (thrown.find()) {
            Check.due("thrown: " + thrown.group(1), EXCEPTIONS.contains(thrown.group(1)) ? 1 : 0, 1);
        }
    }

    private static void staticFieldsAreFinal(String code) {
        Matcher fields = Pattern.compile("\\bstatic\\b[^({;]*[=;]").matcher(code);
        while (fields.find()) {
            boolean constant = fields.group().matches("(?s)static final (int|long) [A-Z_0-9]+ = -?\\d+L?;");
            Check.due("a constant: " + fields.group(), constant ? 1 : 0, 1);
        }
    }

    private static void classesInside(String code) {
        int all = matches(code, "\\bclass\\s+\\w+");
        Check.due("classes inside are private, static and final", matches(code, "private static final class \\w+"), all - 1);
        Check.due("not too many", all <= MOST_CLASSES ? 1 : 0, 1);
    }

    private static void methodsStayShort(String code) {
        Matcher heads = Pattern.compile("\\n( *)(?:\\w+ )*(?:\\w+(?:\\[\\])? )?(\\w+)\\(([^()]*)\\)[^;{]*\\{(.*?)\\n\\1\\}",
            Pattern.DOTALL).matcher(code);
        int methods = 0;
        while (heads.find()) {
            methods++;
            String name = heads.group(2);
            Check.due("lines of " + name, heads.group(4).lines().count() <= MOST_LINES ? 1 : 0, 1);
            Check.due("parameters of " + name, heads.group(3).split(",").length <= MOST_PARAMETERS ? 1 : 0, 1);
        }
        Check.due("methods were found: " + methods, methods > 40 ? 1 : 0, 1);
    }

    /** Each loop counts up to a bound in its own head. */
    private static void loopsHaveABound(String code) {
        Matcher loops = Pattern.compile("\\b(for|while) \\(([^\\n]*)\\) \\{").matcher(code);
        int found = 0;
        while (loops.find()) {
            found++;
            boolean counts = loops.group(1).equals("for")
                ? loops.group(2).matches("int (\\w+) = \\d; \\1 <=? [\\w.]+; \\1\\+\\+")
                : loops.group(2).matches("hours < [A-Z_]+ && .*");
            Check.due("a bound: " + loops.group(), counts ? 1 : 0, 1);
        }
        Check.due("all loops were found", found, matches(code, "\\b(for|while|do)\\b"));
    }
}
