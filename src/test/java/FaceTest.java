import java.lang.reflect.Constructor;
import java.lang.reflect.Field;
import java.lang.reflect.Method;
import java.lang.reflect.Modifier;
import java.nio.file.Files;
import java.nio.file.Path;
import java.util.Arrays;
import java.util.List;
import java.util.Set;
import java.util.TreeSet;
import java.util.regex.Matcher;
import java.util.regex.Pattern;

/** The public face, and the rules of LANGUAGE.md that can be seen from outside or in the source. */
public final class FaceTest {
    private static final Path SOURCE = Path.of("src/main/java/LuckyTickets.java");
    private static final List<String> METHODS = List.of(
        "feed(int)", "tram()", "fault()", "told(int)", "ruleOf(int,int)", "rollOf(int,int)", "rider(int,int)",
        "lucky(int,int)", "sell(int,int)", "line(int,int)", "give(int,int)", "rule(int,int,int,int)", "mode(int)",
        "roll(int,int,int)", "drift(int)", "undo()", "next(int)", "upTo(int,int)", "kth(int)", "waits(int)",
        "dry(int,int)", "see(int,boolean)", "could(int,int)", "write(int,boolean)", "tear()", "judge()",
        "seed(int)", "keep(int)", "goBack(int)");

    public static void main(String[] args) throws Exception {
        Check check = new Check();
        methods(check);
        constants(check);
        classesInside(check);
        words(check);
        roomOfCalls(check);
        check.end();
    }

    private static void methods(Check check) {
        check.part("the face");
        Set<String> shown = new TreeSet<>();
        Set<String> names = new TreeSet<>();
        for (Method m : LuckyTickets.class.getDeclaredMethods()) {
            if (Modifier.isPublic(m.getModifiers())) {
                String kinds = Arrays.toString(m.getParameterTypes()).replaceAll("[\\[\\] ]", "");
                shown.add(m.getName() + "(" + kinds + ")");
                names.add(m.getName());
                check.holds(m.getName() + " answers an int", m.getReturnType() == int.class);
            }
        }
        check.holds("the methods are those of the document: " + shown, shown.equals(new TreeSet<>(METHODS)));
        for (Method m : LuckyTickets.class.getDeclaredMethods()) {
            boolean isPrivate = Modifier.isPrivate(m.getModifiers());
            check.holds(m + " is public or private", isPrivate || Modifier.isPublic(m.getModifiers()));
            check.holds(m + " has no name of the face", !isPrivate || !names.contains(m.getName()));
        }
        Constructor<?>[] makers = LuckyTickets.class.getDeclaredConstructors();
        check.due("constructors", makers.length, 1);
        check.holds("the constructor is public", Modifier.isPublic(makers[0].getModifiers()));
        check.holds("the class is final", Modifier.isFinal(LuckyTickets.class.getModifiers()));
    }

    private static void constants(Check check) {
        check.part("constants");
        check.due("NONE", LuckyTickets.NONE, Check.NONE);
        check.due("UNKNOWN", LuckyTickets.UNKNOWN, Check.UNKNOWN);
        check.due("OUTSIDE", LuckyTickets.OUTSIDE, Check.OUTSIDE);
        check.due("NOT", LuckyTickets.NOT, Check.NOT);
        check.due("FULL", LuckyTickets.FULL, Check.FULL);
        int shown = 0;
        for (Field f : LuckyTickets.class.getDeclaredFields()) {
            boolean isPublic = Modifier.isPublic(f.getModifiers());
            shown += isPublic ? 1 : 0;
            check.holds(f + " is public or private", isPublic || Modifier.isPrivate(f.getModifiers()));
        }
        check.due("public fields", shown, 5);
    }

    private static void classesInside(Check check) {
        check.part("classes inside");
        for (Class<?> inside : LuckyTickets.class.getDeclaredClasses()) {
            check.holds(inside + " is static", Modifier.isStatic(inside.getModifiers()));
            int fields = 0;
            for (Field f : inside.getDeclaredFields()) {
                boolean isStatic = Modifier.isStatic(f.getModifiers());
                fields += isStatic ? 0 : 1;
                check.holds(f + " is final, if static", !isStatic || Modifier.isFinal(f.getModifiers()));
            }
            check.holds(inside + " has twenty fields at most", fields <= 20);
            for (Method m : inside.getDeclaredMethods()) {
                check.holds(m + " has no name of the face", METHODS.stream().noneMatch(f -> f.startsWith(m.getName() + "(")));
                check.holds(m + " takes seven at most", m.getParameterCount() <= 7);
            }
        }
    }

    private static void words(Check check) throws Exception {
        check.part("the source");
        String source = Files.readString(SOURCE).replaceAll("(?s)/\\*.*?\\*/", "").replaceAll("//[^\n]*", "");
        String forbidden = "throw|throws|try|catch|finally|synchronized|assert|import|package|protected|volatile|"
            + "hashCode|toString|Exception|Error|Thread|Object|Exact";
        Matcher word = Pattern.compile("\\b(" + forbidden + ")\\b|->|::|Exact\\(").matcher(source);
        check.holds("the source has no forbidden word", !word.find());
        Matcher inner = Pattern.compile("(?m)^ +(.*\\b(class|interface|enum|record)\\b.*)$").matcher(source);
        int classes = 1;
        while (inner.find()) {
            classes++;
            check.holds(inner.group(1) + " is static", inner.group(1).contains("static"));
        }
        check.holds("there are twelve classes at most: " + classes, classes <= 12);
    }

    /** Once an object is made, its calls make nothing: then no run of calls outgrows its room. */
    private static void roomOfCalls(Check check) {
        check.part("room");
        var bean = (com.sun.management.ThreadMXBean) java.lang.management.ManagementFactory.getThreadMXBean();
        long thread = Thread.currentThread().getId();
        LuckyTickets warm = Check.of("d4;r0 0 0;r2 7 1;n9990 200;p0;p3;");
        everyCall(warm);
        LuckyTickets x = Check.of("d4;r0 0 0;r2 7 1;n9990 200;p0;p3;");
        long before = bean.getThreadAllocatedBytes(thread);
        for (int i = 0; i < 20; i++) {
            everyCall(x);
        }
        long made = bean.getThreadAllocatedBytes(thread) - before;
        check.holds("twenty rounds of every call make next to nothing: " + made, made < 4096);
    }

    private static void everyCall(LuckyTickets x) {
        x.sell(0, 0);
        x.line(0, 9);
        x.give(0, 1);
        x.rule(0, 3, 7, 2);
        x.mode(1);
        x.roll(0, 9990, 100);
        x.drift(10);
        x.next(0);
        x.upTo(0, 9999);
        x.kth(50);
        x.waits(0);
        x.dry(60, 99);
        x.see(12, true);
        x.could(0, 0);
        x.write(12, true);
        x.judge();
        for (int what = 0; what < 15; what++) {
            x.told(what);
        }
        for (int what = 0; what < 6; what++) {
            x.rollOf(0, what);
            x.ruleOf(0, what);
        }
        x.tear();
        x.undo();
        x.keep(0);
        x.goBack(0);
        x.feed('d');
        x.tram();
    }
}
