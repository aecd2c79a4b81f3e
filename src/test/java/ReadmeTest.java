import java.io.IOException;
import java.lang.reflect.Method;
import java.lang.reflect.Modifier;
import java.net.URL;
import java.net.URLClassLoader;
import java.nio.file.DirectoryStream;
import java.nio.file.Files;
import java.nio.file.Path;
import java.util.ArrayList;
import java.util.List;
import java.util.TreeSet;
import java.util.regex.Matcher;
import java.util.regex.Pattern;

/** README.md against the class as it stands: its example, line by line, and the calls and tests that it names. */
public final class ReadmeTest {
    /** A line of the example that says what its call answers. */
    private static final Pattern ANSWER =
            Pattern.compile("(int|long|boolean) (\\w+) = (.+); +// (-?\\d+|true|false)(:.*)?");
    private static final String CLASS = "ReadmeExample";

    public static void main(String[] args) throws Exception {
        List<String> page = Files.readAllLines(Path.of("README.md"));
        example(page);
        calls(page);
        tests(page);
        Check.end("ReadmeTest");
    }

    private static void example(List<String> page) throws Exception {
        List<String> code = new ArrayList<>();
        List<String> calls = new ArrayList<>();
        List<Long> answers = new ArrayList<>();
        for (String line : javaBlock(page)) {
            code.add(line);
            Matcher matcher = ANSWER.matcher(line);
            boolean tells = matcher.matches();
            Check.due("a call without what it answers: " + line, line.contains(" = x.") && !tells, false);
            if (tells) {
                boolean flag = matcher.group(1).equals("boolean");
                code.add("HEARD.add(" + (flag ? matcher.group(2) + " ? 1L : 0L" : "(long) " + matcher.group(2)) + ");");
                calls.add(matcher.group(3));
                answers.add(number(matcher.group(4)));
            }
        }
        Check.due("the example has calls", calls.size() > 20, true);
        List<Long> heard = run(code);
        Check.due("how many calls of the example answered", heard.size(), answers.size());
        for (int i = 0; i < heard.size() && i < answers.size(); i++) {
            Check.due("README.md: " + calls.get(i), heard.get(i), answers.get(i));
        }
    }

    private static List<String> javaBlock(List<String> page) {
        int from = page.indexOf("```java");
        Check.due("README.md has an example", from >= 0, true);
        int to = from;
        while (to < page.size() && !page.get(to).equals("```")) {
            to++;
        }
        return page.subList(from + 1, to);
    }

    private static long number(String text) {
        return text.equals("true") ? 1 : text.equals("false") ? 0 : Long.parseLong(text);
    }

    /** What the example's calls answered; it is compiled outside the checkout, as a class of its own. */
    private static List<Long> run(List<String> code) throws Exception {
        Path folder = Files.createTempDirectory("readme");
        Path source = folder.resolve(CLASS + ".java");
        List<String> lines = new ArrayList<>();
        lines.add("public final class " + CLASS + " {");
        lines.add("public static final java.util.List<Long> HEARD = new java.util.ArrayList<>();");
        lines.add("public static void main(String[] args) {");
        lines.addAll(code);
        lines.add("} }");
        Files.write(source, lines);
        List<Long> heard = new ArrayList<>();
        int failed = new ProcessBuilder("javac", "-cp", System.getProperty("java.class.path"),
                "-d", folder.toString(), source.toString()).inheritIO().start().waitFor();
        Check.due("compiling the example", failed, 0);
        if (failed == 0) {
            try (URLClassLoader loader = new URLClassLoader(new URL[] {folder.toUri().toURL()})) {
                Class<?> example = loader.loadClass(CLASS);
                example.getMethod("main", String[].class).invoke(null, (Object) new String[0]);
                for (Object answer : (List<?>) example.getField("HEARD").get(null)) {
                    heard.add((Long) answer);
                }
            }
        }
        clear(folder);
        return heard;
    }

    private static void clear(Path folder) throws IOException {
        try (DirectoryStream<Path> files = Files.newDirectoryStream(folder)) {
            for (Path file : files) {
                Files.delete(file);
            }
        }
        Files.delete(folder);
    }

    /** Every call of the face has its place in the table of calls, and nothing else has. */
    private static void calls(List<String> page) {
        TreeSet<String> named = new TreeSet<>();
        for (String line : page) {
            if (line.matches("\\| `\\w+` .*") && !line.contains("()")) {
                Matcher matcher = Pattern.compile("`(\\w+)`").matcher(line.substring(0, line.indexOf('|', 1)));
                while (matcher.find()) {
                    Check.due(matcher.group(1) + " is named once", named.add(matcher.group(1)), true);
                }
            }
        }
        TreeSet<String> face = new TreeSet<>();
        for (Method method : TwoTrolleys.class.getDeclaredMethods()) {
            if (Modifier.isPublic(method.getModifiers())) {
                face.add(method.getName());
            }
        }
        Check.due("README.md names the calls " + named + " of " + face, named.equals(face), true);
    }

    private static void tests(List<String> page) throws IOException {
        TreeSet<String> named = new TreeSet<>();
        for (String line : page) {
            Matcher matcher = Pattern.compile("\\| (\\w+Test) \\| .+").matcher(line);
            if (matcher.matches()) {
                named.add(matcher.group(1) + ".java");
            }
        }
        TreeSet<String> there = new TreeSet<>();
        try (DirectoryStream<Path> files = Files.newDirectoryStream(Path.of("src/test/java"), "*Test.java")) {
            for (Path file : files) {
                there.add(file.getFileName().toString());
            }
        }
        Check.due("README.md names the tests " + named + " of " + there, named.equals(there), true);
    }
}
