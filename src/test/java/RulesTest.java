import java.io.IOException;
import java.lang.reflect.Constructor;
import java.lang.reflect.Field;
import java.lang.reflect.Method;
import java.lang.reflect.Modifier;
import java.nio.charset.StandardCharsets;
import java.nio.file.Files;
import java.nio.file.Path;
import java.util.ArrayList;
import java.util.List;
import java.util.Set;
import java.util.TreeSet;
import java.util.regex.Pattern;

/** What ../shared/LANGUAGE.md asks of the class, as far as it can be seen from its face and its text. */
public final class RulesTest {
    private static final Due DUE = new Due("rules");
    private static final Set<String> FACE = Set.of("child(int,int,int)int", "string(int,int)int", "ball(int)int",
            "say(int)int", "wipe()int", "fault()int", "judge(int)int", "behind(int,int)int", "line(int)int", "drawn(int)int",
            "done()int", "reach(int,int)int", "wind(int,int,int)int", "read(int,int,int,int,int,int)int", "felt(int,int)int",
            "forget()int", "fits(int)int", "ask(int)int", "pull(int,int,int,int)int", "passed(int,int,int,int)long",
            "year(int,int,int)int", "image(int)int", "restore(int)int", "told(int)int");
    private static final Set<String> CONSTANTS = Set.of("UNKNOWN", "OUTSIDE", "STATE", "FULL", "NO", "NONE", "GONE");

    public static void main(String[] args) throws IOException {
        face();
        names();
        classesInside();
        words();
        makesOnlyInConstructors();
        lengths();
        DUE.end();
    }

    private static void face() {
        DUE.same("public final", MittenLine.class.getModifiers(), Modifier.PUBLIC | Modifier.FINAL);
        Set<String> open = new TreeSet<>();
        for (Method m : MittenLine.class.getDeclaredMethods()) {
            if (Modifier.isPrivate(m.getModifiers()) || m.isSynthetic()) continue;
            DUE.same("public " + m.getName(), m.getModifiers(), Modifier.PUBLIC);
            open.add(m.getName() + types(m.getParameterTypes()) + m.getReturnType().getName());
        }
        DUE.same("the face is " + open, open.equals(new TreeSet<>(FACE)) ? 1 : 0, 1);
        Constructor<?>[] made = MittenLine.class.getDeclaredConstructors();
        DUE.same("constructors", made.length, 1);
        DUE.same("a public one", made[0].getModifiers(), Modifier.PUBLIC);
        DUE.same("without parameters", made[0].getParameterCount(), 0);
        for (Field f : MittenLine.class.getDeclaredFields()) {
            boolean constant = CONSTANTS.contains(f.getName());
            int due = constant ? Modifier.PUBLIC | Modifier.STATIC | Modifier.FINAL : f.getModifiers() | Modifier.PRIVATE;
            DUE.same("field " + f.getName(), f.getModifiers(), due);
        }
        DUE.same("UNKNOWN", MittenLine.UNKNOWN, -1);
        DUE.same("OUTSIDE", MittenLine.OUTSIDE, -2);
        DUE.same("STATE", MittenLine.STATE, -3);
        DUE.same("FULL", MittenLine.FULL, -4);
        DUE.same("NO", MittenLine.NO, -5);
        DUE.same("NONE", MittenLine.NONE, -6);
        DUE.same("GONE", MittenLine.GONE, -1000000000000000000L);
    }

    private static String types(Class<?>[] types) {
        List<String> names = new ArrayList<>();
        for (Class<?> type : types) names.add(type.getName());
        return "(" + String.join(",", names) + ")";
    }

    private static List<Class<?>> all() {
        List<Class<?>> all = new ArrayList<>();
        all.add(MittenLine.class);
        all.addAll(List.of(MittenLine.class.getDeclaredClasses()));
        return all;
    }

    private static void names() {
        for (Class<?> type : all()) {
            for (Method m : type.getDeclaredMethods()) {
                DUE.same("parameters of " + m, m.getParameterCount() <= 7 ? 1 : 0, 1);
                if (type == MittenLine.class && Modifier.isPublic(m.getModifiers())) continue;
                boolean taken = false;
                for (String call : FACE) taken |= call.startsWith(m.getName() + "(");
                DUE.same("the name of " + m + " is taken", taken ? 1 : 0, 0);
            }
        }
    }

    private static void classesInside() {
        DUE.same("few classes", all().size() <= 12 ? 1 : 0, 1);
        for (Class<?> type : all()) {
            int fields = 0;
            for (Field f : type.getDeclaredFields()) {
                if (!Modifier.isStatic(f.getModifiers())) fields++;
                else DUE.same("static " + f + " is final", Modifier.isFinal(f.getModifiers()) ? 1 : 0, 1);
            }
            DUE.same("fields of " + type, fields <= 20 ? 1 : 0, 1);
            if (type != MittenLine.class) DUE.same(type + " is static", Modifier.isStatic(type.getModifiers()) ? 1 : 0, 1);
        }
    }

    private static List<String> lines() throws IOException {
        return Files.readAllLines(Path.of("src/main/java/MittenLine.java"), StandardCharsets.US_ASCII);
    }

    private static void words() throws IOException {
        String[] words = {"throw", "throws", "try", "catch", "finally", "synchronized", "assert", "import", "package",
                "System", "Thread", "Exception", "Error", "volatile", "native", "double", "float"};
        int at = 0;
        for (String line : lines()) {
            at++;
            String code = line.replaceAll("//.*", "").trim();
            if (code.startsWith("*") || code.startsWith("/*")) continue;
            for (String word : words) {
                DUE.same("line " + at + ": " + word, Pattern.compile("\\b" + word + "\\b").matcher(code).find() ? 1 : 0, 0);
            }
            DUE.same("line " + at + ": lambda", code.contains("->") || code.contains("::") ? 1 : 0, 0);
            DUE.same("line " + at + ": sign", line.chars().allMatch(sign -> sign >= 32 && sign < 127) ? 1 : 0, 1);
        }
    }

    private static void makesOnlyInConstructors() throws IOException {
        String until = null;
        int at = 0;
        for (String line : lines()) {
            at++;
            if (line.matches(" *(public )?[A-Z]\\w*\\(\\) \\{")) until = line.replaceAll("\\S.*", "}");
            if (until == null) DUE.same("line " + at + " makes something", line.matches(".*\\bnew [A-Za-z].*") ? 1 : 0, 0);
            if (line.equals(until)) until = null;
        }
    }

    private static void lengths() throws IOException {
        String until = null;
        int start = 0;
        int at = 0;
        for (String line : lines()) {
            at++;
            if (until == null && line.matches(" {4,8}[^ /*].*\\) \\{")) {
                until = line.replaceAll("\\S.*", "}");
                start = at;
            }
            if (!line.equals(until)) continue;
            DUE.same("the method at line " + start + " is short", at - start <= 60 ? 1 : 0, 1);
            until = null;
        }
    }
}
