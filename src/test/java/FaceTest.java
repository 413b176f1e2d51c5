import java.lang.reflect.Constructor;
import java.lang.reflect.Field;
import java.lang.reflect.Method;
import java.lang.reflect.Modifier;
import java.nio.file.Files;
import java.nio.file.Path;
import java.util.ArrayList;
import java.util.Arrays;
import java.util.List;
import java.util.Set;
import java.util.TreeSet;
import java.util.regex.Matcher;
import java.util.regex.Pattern;

/** The public face: as it is listed here, and as the document tells it, in the source's own lines. */
public final class FaceTest {
    private static final Path SOURCE = Path.of("src/main/java/LuckyTickets.java");
    private static final Path DOCUMENT = Path.of("../shared/DOC.md");
    private static final Pattern MEMBER = Pattern.compile("(?m)^ {4}(public .*);$");
    private static final Pattern PROMISED = Pattern.compile("(?m)^## Promise (\\d+): .*\n\n`(.*?)`: ");
    private static final Pattern GROUP = Pattern.compile("(?m)^Ahead of the calls (.*) the interface says: (---- .*)\\.$");
    private static final List<String> METHODS = List.of(
        "feed(int)", "tram()", "fault()", "told(int)", "ruleOf(int,int)", "rollOf(int,int)", "rider(int,int)",
        "lucky(int,int)", "sell(int,int)", "line(int,int)", "give(int,int)", "rule(int,int,int,int)", "mode(int)",
        "roll(int,int,int)", "drift(int)", "undo()", "next(int)", "upTo(int,int)", "kth(int)", "waits(int)",
        "dry(int,int)", "see(int,boolean)", "could(int,int)", "write(int,boolean)", "tear()", "judge()",
        "seed(int)", "keep(int)", "goBack(int)");

    public static void main(String[] args) throws Exception {
        Check check = new Check();
        methods(check);
        constants(check);
        if (Files.isReadable(DOCUMENT)) {
            String document = Files.readString(DOCUMENT);
            List<String> source = Files.readAllLines(SOURCE);
            facesAreOne(check, document, source);
            promisesAreTheFace(check, document, source);
            groupsAreKept(check, document, source);
        }
        check.end();
    }

    private static void methods(Check check) {
        check.part("the face");
        Set<String> shown = new TreeSet<>();
        Set<String> names = new TreeSet<>();
        for (Method m : LuckyTickets.class.getDeclaredMethods()) {
            if (Modifier.isPublic(m.getModifiers())) {
                String kinds = Arrays.toString(m.getParameterTypes()).replaceAll("[\\[\\] ]", "");
                shown.add(m.getName() + "(" + kinds + ")");
                names.add(m.getName());
                check.holds(m.getName() + " answers an int", m.getReturnType() == int.class);
            }
        }
        check.holds("the methods are those of the document: " + shown, shown.equals(new TreeSet<>(METHODS)));
        for (Method m : LuckyTickets.class.getDeclaredMethods()) {
            boolean isPrivate = Modifier.isPrivate(m.getModifiers());
            check.holds(m + " is public or private", isPrivate || Modifier.isPublic(m.getModifiers()));
            check.holds(m + " has no name of the face", !isPrivate || !names.contains(m.getName()));
        }
        Constructor<?>[] makers = LuckyTickets.class.getDeclaredConstructors();
        check.due("constructors", makers.length, 1);
        check.holds("the constructor is public", Modifier.isPublic(makers[0].getModifiers()));
        check.holds("the class is final", Modifier.isFinal(LuckyTickets.class.getModifiers()));
    }

    private static void constants(Check check) {
        check.part("constants");
        check.due("NONE", LuckyTickets.NONE, Check.NONE);
        check.due("UNKNOWN", LuckyTickets.UNKNOWN, Check.UNKNOWN);
        check.due("OUTSIDE", LuckyTickets.OUTSIDE, Check.OUTSIDE);
        check.due("NOT", LuckyTickets.NOT, Check.NOT);
        check.due("FULL", LuckyTickets.FULL, Check.FULL);
        int shown = 0;
        for (Field f : LuckyTickets.class.getDeclaredFields()) {
            boolean isPublic = Modifier.isPublic(f.getModifiers());
            shown += isPublic ? 1 : 0;
            check.holds(f + " is public or private", isPublic || Modifier.isPrivate(f.getModifiers()));
        }
        check.due("public fields", shown, 5);
    }

    /** Each line of the document's face stands in the source, in that order, and no other public one. */
    private static void facesAreOne(Check check, String document, List<String> source) {
        check.part("the document's face");
        List<String> told = new ArrayList<>();
        Matcher member = MEMBER.matcher(document);
        while (member.find()) {
            told.add(member.group(1));
        }
        List<String> shown = new ArrayList<>();
        for (String line : source) {
            if (line.startsWith("    public ")) {
                shown.add(line.trim().replaceFirst(" \\{$|;$", ""));
            }
        }
        check.due("lines of the face", told.size(), METHODS.size() + 2);
        check.holds("the source's public lines are those of the document: " + shown, shown.equals(told));
    }

    private static void promisesAreTheFace(Check check, String document, List<String> source) {
        check.part("the promises");
        int count = 0;
        Matcher promised = PROMISED.matcher(document);
        while (promised.find()) {
            count++;
            check.due("the number of the promise", Integer.parseInt(promised.group(1)), count);
            String line = "    public " + promised.group(2) + " {";
            check.holds("it is in the source: " + line, source.contains(line));
        }
        check.due("promises", count, METHODS.size() + 1);
    }

    /** Behind the line that the document wants ahead of them come those calls, one behind the other. */
    private static void groupsAreKept(Check check, String document, List<String> source) {
        check.part("the groups of calls");
        int calls = 0;
        Matcher group = GROUP.matcher(document);
        while (group.find()) {
            List<String> told = List.of(group.group(1).replace("`", "").split(", "));
            calls += told.size();
            int from = source.indexOf("    // " + group.group(2));
            check.holds("the source has " + group.group(2), from >= 0);
            List<String> shown = new ArrayList<>();
            for (int i = from + 1; i < source.size() && !source.get(i).startsWith("    // ----"); i++) {
                if (source.get(i).startsWith("    public int ")) {
                    shown.add(source.get(i).replaceFirst(" +public int ", "").replaceFirst("\\(.*", ""));
                }
            }
            check.holds("behind " + group.group(2) + " come " + told + ": " + shown, shown.equals(told));
        }
        check.due("calls in groups", calls, METHODS.size());
    }
}
