import java.lang.reflect.Constructor;
import java.lang.reflect.Field;
import java.lang.reflect.Method;
import java.lang.reflect.Modifier;
import java.nio.charset.StandardCharsets;
import java.nio.file.Files;
import java.nio.file.Path;
import java.util.ArrayList;
import java.util.List;
import java.util.Set;
import java.util.TreeSet;
import java.util.regex.Matcher;
import java.util.regex.Pattern;

/** The face, and those rules of ../shared/LANGUAGE.md that can be seen from the source or the class alone. */
public final class LanguageTest {
    private static final Path SOURCE = Path.of("src/main/java/ShadowLatches.java");
    private static final Set<String> FACE = Set.of(
        "int addPath(int)", "int setLength(int,int)", "int takeWorkload()", "int layWorkload(int,int)",
        "int setVoltage(int)", "int govern(boolean)", "int set(int,int)", "int run(int)", "int type(char)",
        "int clearText()", "int undo()", "int keep()", "int restore()", "int path(int,int)", "int delay(int,int,int)",
        "int workload(int)", "int least(boolean)", "int would(int,int,int)", "int best(int)", "int count(int)");
    private static final Set<String> CONSTANTS = Set.of("UNKNOWN", "BAD_VALUE", "FULL", "NOT_POSSIBLE", "NONE");
    private static final String[] FORBIDDEN = {"throw", "throws", "try", "catch", "synchronized", "assert",
        "package", "native", "volatile", "transient", "equals", "hashCode", "toString", "Exact", "NaN", "Object",
        "new Random", "nanoTime", "currentTimeMillis", "Thread", "out.print"};

    public static void main(String[] args) throws Exception {
        Checks c = new Checks("LanguageTest");
        String code = withoutComments(Files.readString(SOURCE, StandardCharsets.US_ASCII));
        wordsAreAllowed(c, code);
        libraryIsAllowed(c, code);
        methodsAreShort(c, code);
        theFaceIsTheDocuments(c);
        classesInsideAreStatic(c);
        c.end();
    }

    private static String withoutComments(String source) {
        return source.replaceAll("(?s)/\\*.*?\\*/", "").replaceAll("//[^\n]*", "");
    }

    private static void wordsAreAllowed(Checks c, String code) {
        for (String word : FORBIDDEN) {
            c.isTrue("no '" + word + "'", !Pattern.compile("\\b" + word + "\\b").matcher(code).find());
        }
        c.isTrue("no lambda", !code.contains("->"));
        c.isTrue("no method reference", !code.contains("::"));
        c.isTrue("no text is joined by +", !Pattern.compile("\"\\s*\\+|\\+\\s*\"").matcher(code).find());
        c.isTrue("no static block", !Pattern.compile("static\\s*\\{").matcher(code).find());
    }

    private static void libraryIsAllowed(Checks c, String code) {
        c.isTrue("imports are allowed", !Pattern.compile("(?m)^import (?!java\\.util\\.(ArrayList|List|Arrays|Iterator);)")
            .matcher(code).find());
        Matcher m = Pattern.compile("\\b(System|Math|Integer|Long|Arrays|List|String)\\.(\\w+)").matcher(code);
        Set<String> allowed = Set.of("System.arraycopy", "Math.max", "Math.min", "Integer.bitCount");
        while (m.find()) {
            c.isTrue(m.group() + " is allowed", allowed.contains(m.group()));
        }
    }

    private static void methodsAreShort(Checks c, String code) {
        int lines = 0;
        boolean inside = false;
        for (String line : code.split("\n")) {
            boolean head = line.matches(" {4,8}[\\w ]*\\w+\\([^;]*\\) \\{");
            if (head) {
                inside = true;
                lines = 0;
            }
            lines++;
            if (inside && line.matches(" {4}( {4})?\\}")) {
                c.isTrue("a method of " + lines + " lines is short", lines <= 60);
            }
        }
        c.isTrue("methods were seen", inside);
    }

    private static void theFaceIsTheDocuments(Checks c) {
        Class<?> face = ShadowLatches.class;
        c.due("modifiers", face.getModifiers(), Modifier.PUBLIC | Modifier.FINAL);
        Set<String> found = new TreeSet<>();
        List<String> hidden = new ArrayList<>();
        for (Method m : face.getDeclaredMethods()) {
            if (Modifier.isPrivate(m.getModifiers())) {
                hidden.add(m.getName());
            } else {
                c.due("modifiers of " + m.getName(), m.getModifiers(), Modifier.PUBLIC);
                found.add(signature(m));
            }
        }
        c.isTrue("the methods " + found, found.equals(FACE));
        for (String name : hidden) {
            c.isTrue("a private " + name, FACE.stream().noneMatch(s -> s.contains(" " + name + "(")));
        }
        Constructor<?>[] constructors = face.getDeclaredConstructors();
        c.due("constructors", constructors.length, 1);
        c.due("a public one", constructors[0].getModifiers(), Modifier.PUBLIC);
        Set<String> constants = new TreeSet<>();
        for (Field f : face.getDeclaredFields()) {
            if (!Modifier.isPrivate(f.getModifiers())) {
                c.due("modifiers of " + f.getName(), f.getModifiers(), Modifier.PUBLIC | Modifier.STATIC | Modifier.FINAL);
                constants.add(f.getName());
            }
        }
        c.isTrue("the constants " + constants, constants.equals(CONSTANTS));
    }

    private static String signature(Method m) {
        List<String> types = new ArrayList<>();
        for (Class<?> type : m.getParameterTypes()) {
            types.add(type.getName());
        }
        return m.getReturnType().getName() + " " + m.getName() + "(" + String.join(",", types) + ")";
    }

    private static void classesInsideAreStatic(Checks c) {
        List<Class<?>> all = new ArrayList<>(List.of(ShadowLatches.class.getDeclaredClasses()));
        c.isTrue("at most twelve classes", all.size() <= 11);
        for (Class<?> inside : all) {
            c.isTrue(inside.getName() + " is static", Modifier.isStatic(inside.getModifiers()));
            for (Method m : inside.getDeclaredMethods()) {
                c.isTrue("a " + m.getName() + " inside", FACE.stream().noneMatch(s -> s.contains(" " + m.getName() + "(")));
                c.isTrue("parameters of " + m.getName(), m.getParameterCount() <= 7);
            }
        }
        all.add(ShadowLatches.class);
        for (Class<?> each : all) {
            int fields = 0;
            for (Field f : each.getDeclaredFields()) {
                boolean isStatic = Modifier.isStatic(f.getModifiers());
                c.isTrue("static " + f.getName() + " is final", !isStatic || Modifier.isFinal(f.getModifiers()));
                fields += isStatic ? 0 : 1;
            }
            c.isTrue(each.getName() + " has at most twenty fields", fields <= 20);
        }
    }
}
