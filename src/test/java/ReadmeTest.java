import java.io.IOException;
import java.lang.reflect.Method;
import java.nio.file.Files;
import java.nio.file.Path;
import java.util.ArrayList;
import java.util.Arrays;
import java.util.Comparator;
import java.util.List;
import java.util.Set;
import java.util.TreeSet;
import java.util.regex.Matcher;
import java.util.regex.Pattern;
import java.util.stream.Stream;

/** README.md: each call that it shows has the answer that it shows, its constants are those of the class, its commands work. */
public final class ReadmeTest {
    private static final Path README = Path.of("README.md"), TESTS = Path.of("src/test/java");
    private static final String NEW = "TransactionCells x = new TransactionCells();";
    private static final Pattern CALL = Pattern.compile("x\\.(\\w+)\\(([-\\d, ]*)\\); +// (-?\\d+)(  .*)?");
    private static final Pattern ROW = Pattern.compile("\\| `([A-Z]+)` \\| (-?\\d+) \\| .* \\|");
    private static final int MOST_CALLS = 512;

    public static void main(String[] args) throws Exception {
        String text = Files.readString(README);
        List<String> shown = blocks(text, "java");
        Due.due("a run of calls is shown", shown.size() > 20 ? 1 : 0, 1);
        calls(shown);
        constants(text);
        tests(text);
        commands(blocks(text, "sh"), shown);
        Due.close();
    }

    /** The lines of all blocks of a language, one behind the other. */
    private static List<String> blocks(String text, String language) {
        List<String> lines = new ArrayList<>();
        boolean isInside = false;
        for (String line : text.split("\n")) {
            if (line.startsWith("```")) isInside = line.equals("```" + language);
            else if (isInside && !line.isBlank()) lines.add(line);
        }
        return lines;
    }

    // ---- the run of calls

    private static void calls(List<String> shown) throws Exception {
        TransactionCells x = null;
        int calls = 0;
        Set<Long> answers = new TreeSet<>();
        for (String line : shown) {
            if (line.equals(NEW)) {
                x = new TransactionCells();
                calls = 0;
                continue;
            }
            Matcher m = CALL.matcher(line);
            Due.due("README: a call with its answer: " + line, m.matches() && x != null ? 1 : 0, 1);
            if (!m.matches() || x == null) continue;
            calls++;
            Due.due("README: " + line, answer(x, m.group(1), m.group(2)), Long.parseLong(m.group(3)));
            answers.add(Long.parseLong(m.group(3)));
        }
        Due.due("README: no more than 512 calls", calls <= MOST_CALLS ? 1 : 0, 1);
        for (long refused : new long[] {Due.UNKNOWN, Due.OUTSIDE, Due.STATE, Due.SIZE}) {
            Due.due("README: a call that is refused with " + refused, answers.contains(refused) ? 1 : 0, 1);
        }
    }

    private static long answer(TransactionCells x, String name, String given) throws Exception {
        String[] numbers = given.isBlank() ? new String[0] : given.split(", ");
        for (Method m : TransactionCells.class.getMethods()) {
            if (!m.getName().equals(name) || m.getParameterCount() != numbers.length) continue;
            Object[] arguments = new Object[numbers.length];
            for (int i = 0; i < numbers.length; i++) {
                if (m.getParameterTypes()[i] == long.class) arguments[i] = Long.parseLong(numbers[i]);
                else arguments[i] = Integer.parseInt(numbers[i]);
            }
            return ((Number) m.invoke(x, arguments)).longValue();
        }
        throw new IllegalArgumentException("no such call: " + name + "(" + given + ")");
    }

    // ---- the constants, and the tests

    private static void constants(String text) throws Exception {
        int told = 0;
        for (String line : text.split("\n")) {
            Matcher m = ROW.matcher(line);
            if (!m.matches()) continue;
            told++;
            Due.due("README: " + m.group(1), TransactionCells.class.getField(m.group(1)).getInt(null), Integer.parseInt(m.group(2)));
        }
        Due.due("README: all constants", told, TransactionCells.class.getFields().length);
    }

    private static void tests(String text) throws IOException {
        Set<String> named = new TreeSet<>();
        Matcher m = Pattern.compile("`(\\w+Test)`").matcher(text);
        while (m.find()) named.add(m.group(1));
        Set<String> found = new TreeSet<>();
        try (Stream<Path> files = Files.list(TESTS)) {
            files.map(f -> f.getFileName().toString()).filter(f -> f.endsWith("Test.java")).forEach(f -> found.add(f.replace(".java", "")));
        }
        Due.due("README: tests that are named " + named + " and those that are there " + found, named.equals(found) ? 1 : 0, 1);
    }

    // ---- the commands, and the calls as one would type them

    private static void commands(List<String> lines, List<String> shown) throws Exception {
        Path out = Files.createTempDirectory("readme");
        for (String line : lines) {
            if (line.equals(".ci/run")) Due.due("README: " + line, Files.isExecutable(Path.of(line)) ? 1 : 0, 1);
            else Due.due("README: " + line, run(line.replace(" out ", " " + out + " ")), 0);
        }
        Due.due("README: all tests, and one alone", lines.contains(".ci/run") && lines.size() > 2 ? 1 : 0, 1);
        Path typed = out.resolve("Typed.java");
        Files.writeString(typed, "class Typed {\n    static void calls() {\n" + String.join("\n", shown) + "\n    }\n}\n");
        Due.due("README: the calls as they stand there", run("javac -Xlint:all -d " + out + " -cp " + out + " " + typed), 0);
        delete(out);
    }

    private static int run(String line) throws Exception {
        Process process = new ProcessBuilder(Arrays.asList(line.split(" "))).redirectErrorStream(true).start();
        String told = new String(process.getInputStream().readAllBytes());
        int code = process.waitFor();
        if (code != 0) System.out.println(told);
        return code;
    }

    private static void delete(Path directory) throws IOException {
        try (Stream<Path> files = Files.walk(directory)) {
            for (Path file : files.sorted(Comparator.reverseOrder()).toList()) Files.delete(file);
        }
    }
}
