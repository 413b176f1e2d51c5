import java.io.IOException;
import java.lang.reflect.Method;
import java.lang.reflect.Modifier;
import java.nio.file.Files;
import java.nio.file.Path;
import java.util.ArrayList;
import java.util.Comparator;
import java.util.List;
import java.util.Map;
import java.util.TreeMap;
import java.util.TreeSet;
import java.util.regex.Matcher;
import java.util.regex.Pattern;
import java.util.stream.Stream;
import javax.tools.JavaCompiler;
import javax.tools.ToolProvider;

/** What README.md says of calls and answers is what the class answers: its code is compiled and run as it stands there. */
public final class ReadmeTest {
    private static final Path README = Path.of("README.md");
    private static final Pattern BLOCK = Pattern.compile("(?s)```java\n(.*?)```");
    private static final Pattern ANSWERED = Pattern.compile(
        "(x\\.(\\w+)\\(.*?\\)); *// (-?\\d+|NONE|UNKNOWN|OUTSIDE|NOT|FULL): .+");
    private static final Pattern IN_A_TABLE = Pattern.compile("(?m)^\\| `(\\w+)\\(([^)]*)\\)` \\|");
    private static final Check check = new Check();

    public static void main(String[] args) throws Exception {
        check.part("README.md");
        String readme = Files.readString(README);
        Map<String, Integer> face = face();
        everyCallIsNamed(readme, face);
        everyCallIsShown(readme, face);
        codeAnswersSo(readme);
        check.end();
    }

    /** By name, how many numbers each call takes. */
    private static Map<String, Integer> face() {
        Map<String, Integer> face = new TreeMap<>();
        for (Method m : LuckyTickets.class.getDeclaredMethods()) {
            if (Modifier.isPublic(m.getModifiers())) {
                face.put(m.getName(), m.getParameterCount());
            }
        }
        return face;
    }

    /** The tables have each call but the three that the text tells of, with as many arguments as it takes. */
    private static void everyCallIsNamed(String readme, Map<String, Integer> face) {
        TreeSet<String> missing = new TreeSet<>(face.keySet());
        missing.removeAll(List.of("feed", "tram", "fault"));
        Matcher row = IN_A_TABLE.matcher(readme);
        while (row.find()) {
            String name = row.group(1);
            int takes = row.group(2).isEmpty() ? 0 : row.group(2).split(",").length;
            check.due("arguments of " + name, takes, face.getOrDefault(name, -1));
            check.holds(name + " stands in one table, once", missing.remove(name));
        }
        check.holds("the tables have every call, but not: " + missing, missing.isEmpty());
    }

    private static void everyCallIsShown(String readme, Map<String, Integer> face) {
        TreeSet<String> missing = new TreeSet<>(face.keySet());
        for (String line : code(readme)) {
            Matcher call = ANSWERED.matcher(line);
            if (call.matches()) {
                missing.remove(call.group(2));
            } else {
                check.holds("this line has an answer: " + line, !line.startsWith("x.") || line.equals("x.feed(letter);"));
            }
        }
        check.holds("the code has every call, but not: " + missing, missing.isEmpty());
    }

    private static List<String> code(String readme) {
        List<String> lines = new ArrayList<>();
        Matcher block = BLOCK.matcher(readme);
        while (block.find()) {
            block.group(1).lines().map(String::trim).forEach(lines::add);
        }
        return lines;
    }

    private static void codeAnswersSo(String readme) throws Exception {
        Path folder = Files.createTempDirectory("readme");
        try {
            Path file = folder.resolve("ReadmeCode.java");
            Files.writeString(file, program(readme));
            JavaCompiler compiler = ToolProvider.getSystemJavaCompiler();
            String classes = System.getProperty("java.class.path");
            int failed = compiler.run(null, null, null, "-cp", classes, "-d", folder.toString(), file.toString());
            check.due("compiling the code", failed, 0);
            if (failed == 0) {
                runProgram(folder);
            }
        } finally {
            removeFolder(folder);
        }
    }

    /** The code, but that each call's answer is put down beside the one that stands behind it. */
    private static String program(String readme) {
        StringBuilder source = new StringBuilder("public class ReadmeCode {\n");
        source.append("public static void run(java.util.List<Object[]> answers) {\n");
        for (String line : code(readme)) {
            Matcher call = ANSWERED.matcher(line);
            source.append(call.matches() ? answerOf(call.group(1), call.group(3)) : line).append('\n');
        }
        return source.append("}\n}\n").toString();
    }

    private static String answerOf(String call, String due) {
        String number = Character.isLetter(due.charAt(0)) ? "LuckyTickets." + due : due;
        return "answers.add(new Object[] {\"" + call + "\", " + call + ", " + number + "});";
    }

    private static void runProgram(Path folder) throws Exception {
        List<Object[]> answers = new ArrayList<>();
        var loader = new java.net.URLClassLoader(new java.net.URL[] {folder.toUri().toURL()});
        loader.loadClass("ReadmeCode").getMethod("run", List.class).invoke(null, answers);
        loader.close();
        check.holds("the code calls something", !answers.isEmpty());
        for (Object[] answer : answers) {
            check.due((String) answer[0], (Integer) answer[1], (Integer) answer[2]);
        }
    }

    private static void removeFolder(Path folder) throws IOException {
        try (Stream<Path> inside = Files.walk(folder)) {
            for (Path path : inside.sorted(Comparator.reverseOrder()).toList()) {
                Files.delete(path);
            }
        }
    }
}
