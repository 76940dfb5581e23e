import java.io.File;
import java.io.IOException;
import java.lang.reflect.Method;
import java.lang.reflect.Modifier;
import java.nio.charset.StandardCharsets;
import java.nio.file.Files;
import java.nio.file.Path;
import java.util.ArrayList;
import java.util.List;
import java.util.regex.Matcher;
import java.util.regex.Pattern;

/** README.md says what is so: its example, its texts, its tables of calls and of tests. */
public final class ReadmeTest {
    private static final Pattern CALL = Pattern.compile("`(\\w+)\\(([a-z, ]*)\\)`");

    private static String read(String path) throws IOException {
        return Files.readString(Path.of(path));
    }

    private static List<String> all(Pattern pattern, String text) {
        List<String> found = new ArrayList<>();
        Matcher m = pattern.matcher(text);
        while (m.find()) found.add(m.group(1));
        return found;
    }

    private static List<String> blocks(String page, String kind) {
        return all(Pattern.compile("(?s)```" + kind + "\n(.*?)```"), page);
    }

    /** What the example prints, compiled as it stands in the page. */
    private static String[] printed(String example) throws IOException, InterruptedException {
        Path folder = Files.createTempDirectory("readme");
        Path file = folder.resolve("Example.java");
        Files.writeString(file, example);
        String classes = System.getProperty("java.class.path");
        run("javac", "-cp", classes, "-d", folder.toString(), file.toString());
        String out = run("java", "-cp", folder + File.pathSeparator + classes, "Example");
        Files.deleteIfExists(folder.resolve("Example.class"));
        Files.deleteIfExists(file);
        Files.deleteIfExists(folder);
        return out.split("\\R");
    }

    private static String run(String... command) throws IOException, InterruptedException {
        Process process = new ProcessBuilder(command).redirectError(ProcessBuilder.Redirect.INHERIT).start();
        String out = new String(process.getInputStream().readAllBytes(), StandardCharsets.UTF_8);
        Check.due(command[0] + " of the example", process.waitFor(), 0);
        return out;
    }

    private static void example(String page) throws IOException, InterruptedException {
        List<String> examples = blocks(page, "java");
        Check.due("examples", examples.size(), 1);
        List<String> due = all(Pattern.compile("println\\(.*; +// (\\S+)"), examples.get(0));
        String[] got = printed(examples.get(0));
        Check.due("rows that the example prints", got.length, due.size());
        for (int i = 0; i < Math.min(got.length, due.size()); i++) {
            Check.due("row " + i + " of the example: " + got[i] + " for " + due.get(i), got[i].equals(due.get(i)), true);
        }
    }

    private static void texts(String page) {
        CribLine x = new CribLine();
        List<String> families = blocks(page, "family");
        List<String> laws = blocks(page, "law");
        Check.due("texts of THE FAMILY", families.size(), 1);
        Check.due("texts of THE LAW", laws.size(), 1);
        for (int i = 0; i < families.size(); i++) {
            Check.due("text of THE FAMILY", Check.family(x, families.get(i).replace('\n', ' ')), i + 1);
        }
        Check.due("PEOPLE", x.count(0), 4);
        for (String law : laws) Check.due("LINES of THE LAW", Check.law(x, law.replace('\n', ' ')), law.split(";").length);
    }

    private static void calls(String page) {
        List<String> told = new ArrayList<>();
        for (String row : page.split("\n")) {
            Matcher m = CALL.matcher(row.startsWith("| `") ? row.substring(0, row.indexOf('|', 1)) : "");
            while (m.find()) told.add(m.group(1) + " " + (m.group(2).isEmpty() ? 0 : m.group(2).split(",").length));
        }
        int calls = 0;
        for (Method m : CribLine.class.getDeclaredMethods()) {
            if (!Modifier.isPublic(m.getModifiers())) continue;
            calls++;
            String call = m.getName() + " " + m.getParameterCount();
            Check.due(call + " in the tables", told.stream().filter(call::equals).count(), 1);
        }
        Check.due("calls in the tables", told.size(), calls);
    }

    private static void tests(String page) throws IOException {
        int tests = 0;
        try (var files = Files.newDirectoryStream(Path.of("src/test/java"), "*Test.java")) {
            for (Path file : files) {
                tests++;
                String name = file.getFileName().toString().replace(".java", "");
                Check.due(name + " in the table of tests", page.contains("\n| " + name + " |"), true);
            }
        }
        Check.due("rows of the table of tests", all(Pattern.compile("(?m)^\\| (\\w+Test) \\|"), page).size(), tests);
    }

    public static void main(String[] args) throws IOException, InterruptedException {
        String page = read("README.md");
        example(page);
        texts(page);
        calls(page);
        tests(page);
        Check.close("ReadmeTest");
    }
}
