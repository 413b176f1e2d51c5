import java.lang.reflect.Field;
import java.lang.reflect.Method;
import java.lang.reflect.Modifier;
import java.nio.file.Files;
import java.nio.file.Path;
import java.util.HashSet;
import java.util.List;
import java.util.Set;
import java.util.regex.Matcher;
import java.util.regex.Pattern;

/** The rules of LANGUAGE.md that can be seen from outside or in the source. */
public final class LanguageTest {
    private static final Path SOURCE = Path.of("src/main/java/LuckyTickets.java");
    /** What of the library the class uses, all of it allowed by rule 4. */
    private static final Set<String> LIBRARY = Set.of("Math.abs", "Math.max", "Math.min", "Long.bitCount", "System.arraycopy");
    private static final int MOST_LINES = 60;

    public static void main(String[] args) throws Exception {
        Check check = new Check();
        String source = Files.readString(SOURCE).replaceAll("(?s)/\\*.*?\\*/", "").replaceAll("//[^\n]*", "");
        classesInside(check);
        words(check, source);
        library(check, source);
        methodsAreShort(check, Files.readAllLines(SOURCE));
        roomOfCalls(check);
        check.end();
    }

    private static void classesInside(Check check) {
        check.part("classes inside");
        Set<String> face = new HashSet<>();
        for (Method m : LuckyTickets.class.getMethods()) {
            if (m.getDeclaringClass() == LuckyTickets.class) {
                face.add(m.getName());
            }
        }
        for (Class<?> inside : LuckyTickets.class.getDeclaredClasses()) {
            check.holds(inside + " is static", Modifier.isStatic(inside.getModifiers()));
            int fields = 0;
            for (Field f : inside.getDeclaredFields()) {
                boolean isStatic = Modifier.isStatic(f.getModifiers());
                fields += isStatic ? 0 : 1;
                check.holds(f + " is final, if static", !isStatic || Modifier.isFinal(f.getModifiers()));
            }
            check.holds(inside + " has twenty fields at most", fields <= 20);
            for (Method m : inside.getDeclaredMethods()) {
                check.holds(m + " has no name of the face", !face.contains(m.getName()));
                check.holds(m + " takes seven at most", m.getParameterCount() <= 7);
            }
        }
    }

    private static void words(Check check, String source) {
        check.part("the source");
        String forbidden = "throw|throws|try|catch|finally|synchronized|assert|import|package|protected|volatile|"
            + "hashCode|toString|Exception|Error|Thread|Object|Exact";
        Matcher word = Pattern.compile("\\b(" + forbidden + ")\\b|->|::|Exact\\(").matcher(source);
        check.holds("the source has no forbidden word", !word.find());
        Matcher inner = Pattern.compile("(?m)^ +(.*\\b(class|interface|enum|record)\\b.*)$").matcher(source);
        int classes = 1;
        while (inner.find()) {
            classes++;
            check.holds(inner.group(1) + " is static", inner.group(1).contains("static"));
        }
        check.holds("there are twelve classes at most: " + classes, classes <= 12);
    }

    /** Each name with a capital and a small letter is a class of its own, or one of those few of the library. */
    private static void library(Check check, String source) {
        check.part("the library");
        Set<String> own = new HashSet<>();
        own.add("LuckyTickets");
        for (Class<?> inside : LuckyTickets.class.getDeclaredClasses()) {
            own.add(inside.getSimpleName());
        }
        Matcher name = Pattern.compile("\\b([A-Z]\\w*[a-z]\\w*)(\\.\\w+)?").matcher(source);
        while (name.find()) {
            check.holds(name.group() + " may be used", own.contains(name.group(1)) || LIBRARY.contains(name.group()));
        }
    }

    private static void methodsAreShort(Check check, List<String> lines) {
        check.part("methods");
        for (int from = 0; from < lines.size(); from++) {
            Matcher opening = Pattern.compile("( {4}| {8})\\S.*\\) \\{").matcher(lines.get(from));
            if (opening.matches()) {
                List<String> rest = lines.subList(from, lines.size());
                int length = rest.indexOf(opening.group(1) + "}") + 1;
                check.holds("it is short: " + lines.get(from).trim(), length > 0 && length <= MOST_LINES);
            }
        }
    }

    /** Once an object is made, its calls make nothing: then no run of calls outgrows its room. */
    private static void roomOfCalls(Check check) {
        check.part("room");
        var bean = (com.sun.management.ThreadMXBean) java.lang.management.ManagementFactory.getThreadMXBean();
        long thread = Thread.currentThread().getId();
        LuckyTickets warm = Check.of("d4;r0 0 0;r2 7 1;n9990 200;p0;p3;");
        everyCall(warm);
        LuckyTickets x = Check.of("d4;r0 0 0;r2 7 1;n9990 200;p0;p3;");
        long before = bean.getThreadAllocatedBytes(thread);
        for (int i = 0; i < 20; i++) {
            everyCall(x);
        }
        long made = bean.getThreadAllocatedBytes(thread) - before;
        check.holds("twenty rounds of every call make next to nothing: " + made, made < 4096);
    }

    private static void everyCall(LuckyTickets x) {
        x.sell(0, 0);
        x.line(0, 9);
        x.give(0, 1);
        x.rule(0, 3, 7, 2);
        x.mode(1);
        x.roll(0, 9990, 100);
        x.drift(10);
        x.next(0);
        x.upTo(0, 9999);
        x.kth(50);
        x.waits(0);
        x.dry(60, 99);
        x.see(12, true);
        x.could(0, 0);
        x.write(12, true);
        x.judge();
        for (int what = 0; what < 15; what++) {
            x.told(what);
        }
        for (int what = 0; what < 6; what++) {
            x.rollOf(0, what);
            x.ruleOf(0, what);
        }
        x.tear();
        x.undo();
        x.keep(0);
        x.goBack(0);
        x.feed('d');
        x.tram();
    }
}
