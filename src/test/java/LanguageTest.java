import java.io.PrintWriter;
import java.io.StringWriter;
import java.lang.reflect.Field;
import java.lang.reflect.Method;
import java.lang.reflect.Modifier;
import java.nio.file.Files;
import java.nio.file.Path;
import java.util.ArrayList;
import java.util.Arrays;
import java.util.List;
import java.util.Map;
import java.util.Optional;
import java.util.Set;
import java.util.TreeMap;
import java.util.TreeSet;
import java.util.spi.ToolProvider;
import java.util.regex.Matcher;
import java.util.regex.Pattern;

/** The face of the class, and those rules of LANGUAGE.md that can be read off the source or the class. */
public final class LanguageTest {
    private static final String[] FACE = {
        "int act(int,int,int,int,int)", "int wipe()", "int row(int,int,int)", "int item(int,int,long)", "int tear(int)",
        "int cell(int,int,int)", "int way(int)", "int code(int,int)", "int start(int)", "int reset()", "int step(int)",
        "int run(int,int)", "int explore(int)", "int end(int,int)", "int thread(int,int)", "int told(int,int)",
        "int count(int)", "int order(int,int)", "int forge(int,int,int)", "int check()", "int keep()", "int back()",
        "long digest()"};
    private static final String[] FORBIDDEN = {
        "\\bthrow\\b", "\\btry\\b", "\\bcatch\\b", "\\bsynchronized\\b", "\\bassert\\b", "->", "::", "\\bprotected\\b",
        "\\bequals\\(", "\\bhashCode\\b", "\\btoString\\b", "Exact\\b", "\\bThread\\b", "\\bRandom\\b", "\"", "'",
        "\\bdouble\\b", "\\bfloat\\b", "\\bObject\\b", "\\bpackage\\b", "\\bwhile \\(true\\)", "for \\(;;\\)"};

    public static void main(String[] args) throws Exception {
        face();
        classes();
        String source = Files.readString(Path.of("src/main/java/TransactionCells.java"));
        for (char c : source.toCharArray()) {
            if (c > 126) Due.due("sign " + (int) c, 1, 0);
        }
        String bare = source.replaceAll("(?s)/\\*.*?\\*/", "").replaceAll("//[^\n]*", "");
        for (String word : FORBIDDEN) Due.due("forbidden: " + word, count(word, bare), 0);
        library(bare);
        methods(bare);
        calls();
        Due.close();
    }

    private static String signature(Method m) {
        StringBuilder b = new StringBuilder(m.getReturnType().getSimpleName() + " " + m.getName() + "(");
        for (int i = 0; i < m.getParameterCount(); i++) {
            b.append(i == 0 ? "" : ",").append(m.getParameterTypes()[i].getSimpleName());
        }
        return b.append(")").toString();
    }

    private static void face() throws Exception {
        Class<?> c = TransactionCells.class;
        Due.due("public final", c.getModifiers() & (Modifier.PUBLIC | Modifier.FINAL), Modifier.PUBLIC | Modifier.FINAL);
        Set<String> found = new TreeSet<>();
        Set<String> names = new TreeSet<>();
        for (Method m : c.getDeclaredMethods()) {
            if (Modifier.isPublic(m.getModifiers())) {
                found.add(signature(m));
                names.add(m.getName());
            }
        }
        Due.due("the face: " + found, found.equals(new TreeSet<>(Arrays.asList(FACE))) ? 1 : 0, 1);
        for (Method m : c.getDeclaredMethods()) {
            if (Modifier.isPublic(m.getModifiers())) continue;
            Due.due("private " + m, Modifier.isPrivate(m.getModifiers()) && !names.contains(m.getName()) ? 1 : 0, 1);
        }
        Due.due("one constructor", c.getDeclaredConstructors().length, 1);
        Due.due("public constructor", Modifier.isPublic(c.getDeclaredConstructor().getModifiers()) ? 1 : 0, 1);
        constants();
    }

    private static void constants() throws Exception {
        String[] names = {"NONE", "UNKNOWN", "OUTSIDE", "STATE", "FULL", "SIZE"};
        int[] values = {-1, -101, -102, -103, -104, -15};
        for (int i = 0; i < names.length; i++) {
            Due.due(names[i], TransactionCells.class.getField(names[i]).getInt(null), values[i]);
        }
        Due.due("public fields", TransactionCells.class.getFields().length, names.length);
    }

    private static void classes() {
        Class<?>[] inside = TransactionCells.class.getDeclaredClasses();
        Due.due("some twelve classes", inside.length < 12 ? 1 : 0, 1);
        fields(TransactionCells.class);
        Set<String> names = new TreeSet<>();
        for (String method : FACE) names.add(method.replaceAll("^\\w+ |\\(.*", ""));
        for (Class<?> c : inside) {
            for (Method m : c.getDeclaredMethods()) Due.due("not a name of the face: " + m, names.contains(m.getName()) ? 1 : 0, 0);
            Due.due("static: " + c, Modifier.isStatic(c.getModifiers()) ? 1 : 0, 1);
            Due.due("not public: " + c, c.getModifiers() & (Modifier.PUBLIC | Modifier.PROTECTED), 0);
            fields(c);
        }
    }

    private static void fields(Class<?> c) {
        int own = 0;
        for (Field f : c.getDeclaredFields()) {
            boolean isConstant = Modifier.isStatic(f.getModifiers());
            if (!isConstant) own++;
            if (isConstant) Due.due("final: " + f, Modifier.isFinal(f.getModifiers()) ? 1 : 0, 1);
            if (c == TransactionCells.class && !Modifier.isPublic(f.getModifiers())) {
                Due.due("private: " + f, Modifier.isPrivate(f.getModifiers()) ? 1 : 0, 1);
            }
        }
        Due.due("some twenty fields: " + c, own <= 20 ? 1 : 0, 1);
    }

    private static int count(String pattern, String in) {
        Matcher m = Pattern.compile(pattern).matcher(in);
        int n = 0;
        while (m.find()) n++;
        return n;
    }

    private static void library(String bare) {
        Due.due("imports", count("\\bimport\\b", bare), count("import java\\.util\\.Arrays;", bare));
        Due.due("Arrays", count("\\bArrays\\.", bare), count("\\bArrays\\.(fill|copyOf|copyOfRange)\\(", bare));
        Due.due("System", count("\\bSystem\\b", bare), count("\\bSystem\\.arraycopy\\(", bare));
        Due.due("Math", count("\\bMath\\b", bare), count("\\bMath\\.(min|max|abs|floorDiv|floorMod)\\(", bare));
        Due.due("casts", count("\\((?!int|long|short|byte|char)[a-zA-Z]\\w*\\) ?\\w", bare.replaceAll("\\b(if|for|while|switch) \\(", "")), 0);
    }

    /** No method is long, or takes many parameters. */
    private static void methods(String bare) {
        String[] lines = bare.split("\n");
        Pattern head = Pattern.compile("^( +)(?:(?:public|private|static|final) )*[\\w\\[\\]]+(?: \\w+)?\\((.*)\\) \\{$");
        int seen = 0;
        for (int i = 0; i < lines.length; i++) {
            Matcher m = head.matcher(lines[i]);
            if (!m.matches() || lines[i].matches(" +(if|for|while|switch|else|do|return).*")) continue;
            seen++;
            int end = i;
            while (end < lines.length && !lines[end].equals(m.group(1) + "}")) end++;
            Due.due("lines of" + lines[i], end - i < 60 ? 1 : 0, 1);
            int parameters = m.group(2).isEmpty() ? 0 : m.group(2).split(",").length;
            Due.due("parameters of" + lines[i], parameters <= 7 ? 1 : 0, 1);
        }
        Due.due("methods were seen", seen > 60 ? 1 : 0, 1);
    }

    // ---- calls: none that comes back to itself, and at most eight deep

    private static void calls() {
        Optional<ToolProvider> javap = ToolProvider.findFirst("javap");
        if (javap.isEmpty()) {
            System.out.println("no javap here: how deep calls go was not looked at");
            return;
        }
        Map<String, Set<String>> graph = new TreeMap<>();
        List<String> classes = new ArrayList<>(List.of("TransactionCells"));
        for (Class<?> c : TransactionCells.class.getDeclaredClasses()) classes.add(c.getName());
        for (String c : classes) readCalls(javap.get(), c, graph);
        Due.due("methods were seen", graph.size() > 60 ? 1 : 0, 1);
        for (String method : graph.keySet()) {
            int depth = depth(graph, method, new ArrayList<>());
            Due.due(method + " goes at most eight deep, the library's call too", depth <= 8 ? 8 : depth, 8);
        }
    }

    /** Of each method of a class those that it calls, the library's too. */
    private static void readCalls(ToolProvider javap, String c, Map<String, Set<String>> graph) {
        StringWriter told = new StringWriter();
        javap.run(new PrintWriter(told), new PrintWriter(told), "-c", "-p", "-cp", System.getProperty("java.class.path"), c);
        Pattern head = Pattern.compile("^  [^ ].*?([\\w$]+)\\(.*\\);$");
        Pattern call = Pattern.compile("invoke\\w+ .*// (?:Interface)?Method (?:([\\w/$]+)\\.)?\"?([\\w<>]+)\"?:");
        Set<String> called = new TreeSet<>();
        for (String line : told.toString().split("\n")) {
            Matcher h = head.matcher(line);
            if (h.find()) called = graph.computeIfAbsent(c + "." + (h.group(1).equals(c) ? "<init>" : h.group(1)), k -> new TreeSet<>());
            Matcher m = call.matcher(line);
            if (m.find()) called.add((m.group(1) == null ? c : m.group(1)) + "." + m.group(2));
        }
    }

    private static int depth(Map<String, Set<String>> graph, String method, List<String> open) {
        if (open.contains(method)) {
            Due.due("no recursion: " + open + " to " + method, 1, 0);
            return 0;
        }
        open.add(method);
        int deepest = 0;
        for (String called : graph.getOrDefault(method, Set.of())) deepest = Math.max(deepest, depth(graph, called, open));
        open.remove(method);
        return deepest + 1;
    }
}
