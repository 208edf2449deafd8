import java.io.IOException;
import java.nio.file.Files;
import java.nio.file.Path;
import java.util.ArrayList;
import java.util.LinkedHashMap;
import java.util.List;
import java.util.Map;
import java.util.regex.Matcher;
import java.util.regex.Pattern;

/** SENTENCES.md: its left column is the document's text, whole and in its order; its places and tests are there. */
public final class SentencesTest {
    private static final String CLASS = "TransactionCells";
    private static final Path SOURCE = Path.of("src/main/java/TransactionCells.java"), TESTS = Path.of("src/test/java");
    private static final Pattern NAME = Pattern.compile("([A-Z]\\w+)\\.(\\w+)");
    private static final int PROMISES = 24;

    public static void main(String[] args) throws IOException {
        Map<String, StringBuilder> told = new LinkedHashMap<>();
        List<String[]> rows = rows(told);
        document(told);
        places(rows);
        tests(rows);
        Due.close();
    }

    /** The rows that tell a sentence; all sentences of a part, one behind the other, come to told. */
    private static List<String[]> rows(Map<String, StringBuilder> told) throws IOException {
        List<String[]> rows = new ArrayList<>();
        StringBuilder part = new StringBuilder();
        for (String line : Files.readString(Path.of("SENTENCES.md")).split("\n")) {
            if (line.startsWith("## ")) {
                part = new StringBuilder();
                told.put(line.substring(3), part);
            }
            if (!line.startsWith("| ") || line.startsWith("| sentence |")) continue;
            String[] row = line.substring(2, line.length() - 2).split(" \\| ");
            Due.due("three columns: " + line, row.length, 3);
            part.append(row[0]).append(' ');
            rows.add(row);
        }
        return rows;
    }

    // ---- the document

    private static void document(Map<String, StringBuilder> told) throws IOException {
        Map<String, String> parts = parts(Files.readString(Path.of("../shared/DOC.md")));
        for (Map.Entry<String, String> part : parts.entrySet()) {
            StringBuilder found = told.get(part.getKey());
            Due.due("there is a part: " + part.getKey(), found == null ? 0 : 1, 1);
            if (found != null) isText(part.getKey(), found.toString().trim(), part.getValue());
        }
        Due.due("no other parts", told.size(), parts.size());
        Due.due("all promises, Terms 1 to 4, first and last part", parts.size(), PROMISES + 4 + 2);
    }

    private static void isText(String part, String found, String want) {
        int same = 0;
        while (same < Math.min(found.length(), want.length()) && found.charAt(same) == want.charAt(same)) same++;
        String rest = want.substring(same, Math.min(want.length(), same + 60));
        Due.due(part + ", from: " + rest, found.equals(want) ? 1 : 0, 1);
    }

    /** The text of each part; of promises without the call and its types, which LanguageTest looks at. */
    private static Map<String, String> parts(String document) {
        Map<String, String> parts = new LinkedHashMap<>();
        for (String part : document.split("(?m)^## ")) {
            int end = part.indexOf('\n');
            String name = end < 0 ? "" : part.substring(0, end);
            String text = end < 0 ? "" : part.substring(end).replace("```text", "").replace("```", "").replaceAll("\\s+", " ").trim();
            if (name.equals("Terms")) terms(parts, text);
            else if (name.startsWith("Promise")) parts.put(name.replaceAll(":.*", ""), text.replaceFirst("^`[^`]*`: ", ""));
            else if (!name.isEmpty() && !name.startsWith("#") && !name.equals("The public face")) parts.put(name, text);
        }
        return parts;
    }

    private static void terms(Map<String, String> parts, String text) {
        String[] terms = text.split("======== ?");
        for (int i = 1; i < terms.length; i++) parts.put("Terms " + i, terms[i].replaceFirst("^" + i + "\\.? ", "").trim());
    }

    // ---- the class

    /** Each class inside has its own text, up to the next one; what is ahead of the first is of the class itself. */
    private static Map<String, String> classes() throws IOException {
        Map<String, String> classes = new LinkedHashMap<>();
        Matcher head = Pattern.compile("(?:private static|public) final class (\\w+)").matcher(Files.readString(SOURCE));
        List<Integer> from = new ArrayList<>();
        List<String> names = new ArrayList<>();
        while (head.find()) {
            from.add(head.end());
            names.add(head.group(1));
        }
        String source = Files.readString(SOURCE);
        for (int i = 0; i < names.size(); i++) {
            classes.put(names.get(i), source.substring(from.get(i), i + 1 < from.size() ? from.get(i + 1) : source.length()));
        }
        return classes;
    }

    private static void places(List<String[]> rows) throws IOException {
        Map<String, String> classes = classes();
        Due.due("the class and those inside it", classes.containsKey(CLASS) && classes.size() > 5 ? 1 : 0, 1);
        for (String[] row : rows) {
            Matcher m = NAME.matcher(row[1]);
            int places = 0;
            while (m.find()) {
                places++;
                Due.due("a place: " + m.group(), isMethod(classes.getOrDefault(m.group(1), ""), m.group(2)) ? 1 : 0, 1);
            }
            Due.due("a place for: " + row[0], places > 0 ? 1 : 0, 1);
        }
    }

    /** Whether a method, or a constructor, begins in this text. */
    private static boolean isMethod(String text, String name) {
        return Pattern.compile("(?m)^ +(?:[\\w\\[\\]<>]+ )*" + name + "\\([^;]*\\{$").matcher(text).find();
    }

    // ---- the tests

    private static void tests(List<String[]> rows) throws IOException {
        for (String[] row : rows) {
            Matcher m = NAME.matcher(row[2]);
            int tests = 0;
            while (m.find()) {
                tests++;
                Path file = TESTS.resolve(m.group(1) + ".java");
                String text = Files.exists(file) ? Files.readString(file) : "";
                Due.due("a test: " + m.group(), isMethod(text, m.group(2)) ? 1 : 0, 1);
            }
            Due.due("a test for: " + row[0], tests > 0 ? 1 : 0, 1);
        }
    }
}
