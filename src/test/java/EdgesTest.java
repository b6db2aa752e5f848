import java.io.File;
import java.io.IOException;
import java.lang.reflect.InvocationTargetException;
import java.lang.reflect.Method;
import java.lang.reflect.Modifier;
import java.nio.file.Files;
import java.nio.file.Path;
import java.util.Comparator;
import java.util.List;
import java.util.Map;
import java.util.TreeMap;
import java.util.regex.Matcher;
import java.util.regex.Pattern;

/**
 * Runs one test for each case that the document names, promise by promise; and looks that each test tells
 * which words of the document it holds, and that no promise and no refusal of a promise is without one.
 */
public final class EdgesTest {
    private static final List<Class<?>> ALL = List.of(ChildrenEdges.class, PadEdges.class, ActEdges.class, DaysEdges.class,
            SumsEdges.class, SightsEdges.class, ImageEdges.class);
    private static final Pattern NAME = Pattern.compile("p(\\d\\d)_([a-z]+)_\\w+");
    private static final String[] CALLS = {"new", "child", "string", "ball", "say", "wipe", "fault", "judge", "behind", "line",
            "drawn", "done", "reach", "wind", "read", "felt", "forget", "fits", "ask", "pull", "passed", "year", "image",
            "restore", "told"};

    private static int failed;

    public static void main(String[] args) throws IOException {
        areAllFiles();
        String document = Files.readString(Path.of("../shared/DOC.md")).replaceAll("\\s+", " ");
        Map<String, Method> tests = new TreeMap<>();
        for (Class<?> type : ALL) {
            for (Method m : type.getDeclaredMethods()) {
                if (NAME.matcher(m.getName()).matches()) tests.put(m.getName(), m);
                else if (m.isAnnotationPresent(Says.class)) fail(m.getName() + ": not a test's name");
            }
        }
        for (Method test : tests.values()) {
            run(test);
            says(test, document);
        }
        for (int promise = 1; promise <= CALLS.length; promise++) isHeld(promise, document, tests);
        System.out.println("edges: " + tests.size() + " cases, " + failed + " of them not as due");
        if (failed != 0) System.exit(1);
    }

    /** No file of cases is left out. */
    private static void areAllFiles() {
        String[] files = new File("src/test/java").list((folder, name) -> name.endsWith("Edges.java"));
        for (String file : files == null ? new String[] {"no files are found"} : files) {
            if (ALL.stream().noneMatch(type -> file.equals(type.getName() + ".java"))) fail(file + ": is not run");
        }
    }

    private static void fail(String what) {
        failed++;
        System.out.println(what);
    }

    private static void run(Method test) {
        Cases.begin(test.getName());
        try {
            test.invoke(null);
            if (Cases.wrong() != 0) fail(test.getName() + ": " + Cases.wrong() + " answers are not as due");
            if (Cases.checks() == 0) fail(test.getName() + ": nothing was asked");
        } catch (InvocationTargetException e) {
            fail(test.getName() + ": " + e.getCause());
        } catch (IllegalAccessException e) {
            fail(test.getName() + ": " + e);
        }
    }

    /** The words that a test holds stand in its promise, or ahead of all promises. */
    private static void says(Method test, String document) {
        Matcher name = NAME.matcher(test.getName());
        Says says = test.getAnnotation(Says.class);
        if (!name.matches() || says == null || !Modifier.isStatic(test.getModifiers())) {
            fail(test.getName() + ": does not tell what it holds");
            return;
        }
        int promise = Integer.parseInt(name.group(1));
        if (promise < 1 || promise > CALLS.length || !name.group(2).equals(CALLS[promise - 1])) {
            fail(test.getName() + ": promise " + promise + " is of another call");
            return;
        }
        String ahead = document.substring(0, document.indexOf(" ## Promise 1:"));
        for (String words : says.value()) {
            if (!ahead.contains(words) && !section(promise, document).contains(words)) {
                fail(test.getName() + ": the document does not say: " + words);
            }
        }
    }

    private static String section(int promise, String document) {
        int from = document.indexOf(" ## Promise " + promise + ":");
        int to = document.indexOf(" ## ", from + 1);
        return document.substring(from, to);
    }

    /** A promise has tests, and each refusal that it names has one that bears the refusal's name. */
    private static void isHeld(int promise, String document, Map<String, Method> tests) {
        String start = String.format("p%02d_%s_", promise, CALLS[promise - 1]);
        List<String> names = tests.keySet().stream().filter(name -> name.startsWith(start)).sorted(Comparator.naturalOrder()).toList();
        if (names.isEmpty()) fail("promise " + promise + " has no test");
        Matcher refusal = Pattern.compile("\\b(UNKNOWN|OUTSIDE|STATE|FULL|NO|NONE)\\b").matcher(section(promise, document));
        while (refusal.find()) {
            String word = refusal.group();
            if (names.stream().noneMatch(name -> name.startsWith(start + word + "_"))) fail(start + word + ": has no test");
        }
    }
}
