import java.io.ByteArrayOutputStream;
import java.io.IOException;
import java.io.PrintStream;
import java.lang.reflect.Method;
import java.lang.reflect.Modifier;
import java.nio.charset.StandardCharsets;
import java.nio.file.Files;
import java.nio.file.Path;
import java.util.Map;
import java.util.Set;
import java.util.TreeMap;
import java.util.TreeSet;
import java.util.regex.Matcher;
import java.util.regex.Pattern;
import java.util.stream.Collectors;
import java.util.stream.Stream;

/** What README.md tells: its example, its tables of the calls and the settings, the tests that it names. */
public final class ReadmeTest {
    private static final Path TESTS = Path.of("src/test/java");

    public static void main(String[] args) throws IOException {
        Checks c = new Checks("ReadmeTest");
        String page = read(Path.of("README.md"));
        theExampleIsTheProgram(c, page);
        theCallsAreTheDocuments(c, page, read(Path.of("../shared/DOC.md")));
        theSettingsAreTaken(c, page);
        theErrorsAreTheConstants(c, page);
        theTestsAreThere(c, page);
        eachPromiseHasATest(c, page);
        c.end();
    }

    private static String read(Path file) throws IOException {
        return Files.readString(file, StandardCharsets.UTF_8);
    }

    private static void theExampleIsTheProgram(Checks c, String page) throws IOException {
        String source = read(TESTS.resolve("Example.java"));
        c.isTrue("that the source of the example stands there", page.contains("```java\n" + source + "```"));
        PrintStream out = System.out;
        ByteArrayOutputStream told = new ByteArrayOutputStream();
        System.setOut(new PrintStream(told, true, StandardCharsets.US_ASCII));
        Example.main(new String[0]);
        System.setOut(out);
        String answers = told.toString(StandardCharsets.US_ASCII).replace(System.lineSeparator(), "\n");
        c.isTrue("that these answers of the example stand there:\n" + answers, page.contains("```\n" + answers + "```"));
    }

    private static void theCallsAreTheDocuments(Checks c, String page, String document) {
        Map<String, Boolean> told = new TreeMap<>();
        Matcher row = Pattern.compile("(?m)^\\| `(\\w+)\\(.*\\)` \\| .* \\| (yes|no) \\|$").matcher(page);
        while (row.find()) {
            told.put(row.group(1), row.group(2).equals("yes"));
        }
        Map<String, Boolean> due = new TreeMap<>();
        for (String promise : document.split("(?m)^## ")) {
            Matcher head = Pattern.compile("Promise \\d+: (\\w+)\n").matcher(promise);
            if (head.lookingAt()) {
                due.put(head.group(1), promise.contains("This is an act."));
            }
        }
        c.due("methods of the document", due.size(), 20);
        c.isTrue("that the calls are " + due + ", not " + told, told.equals(due));
        Set<String> face = new TreeSet<>();
        for (Method m : ShadowLatches.class.getDeclaredMethods()) {
            if (Modifier.isPublic(m.getModifiers())) {
                face.add(m.getName());
            }
        }
        c.isTrue("that the calls are those of the class", told.keySet().equals(face));
    }

    private static void theSettingsAreTaken(Checks c, String page) {
        int seen = 0;
        Matcher row = Pattern.compile("(?m)^\\| (\\d) \\| [^|]+ \\| (\\d+) to (\\d+) \\| (\\d+) \\|$").matcher(page);
        while (row.find()) {
            seen++;
            int which = Integer.parseInt(row.group(1));
            int least = Integer.parseInt(row.group(2));
            int most = Integer.parseInt(row.group(3));
            int first = Integer.parseInt(row.group(4));
            ShadowLatches x = new ShadowLatches();
            String set = "set(" + which + ", ";
            c.due("count(" + (17 + which) + ")", x.count(17 + which), first);
            c.due(set + (least - 1) + ")", x.set(which, least - 1), Checks.BAD_VALUE);
            c.due(set + (most + 1) + ")", x.set(which, most + 1), Checks.BAD_VALUE);
            c.due(set + most + ")", x.set(which, most), first);
            c.due(set + least + ")", x.set(which, least), most);
        }
        c.due("settings of the page", seen, 7);
    }

    private static void theErrorsAreTheConstants(Checks c, String page) {
        c.isTrue("UNKNOWN", page.contains("| `UNKNOWN`, " + ShadowLatches.UNKNOWN + " |"));
        c.isTrue("BAD_VALUE", page.contains("| `BAD_VALUE`, " + ShadowLatches.BAD_VALUE + " |"));
        c.isTrue("FULL", page.contains("| `FULL`, " + ShadowLatches.FULL + " |"));
        c.isTrue("NOT_POSSIBLE", page.contains("| `NOT_POSSIBLE`, " + ShadowLatches.NOT_POSSIBLE + " |"));
        c.isTrue("NONE", page.contains("| `NONE`, " + ShadowLatches.NONE + " |"));
    }

    private static void theTestsAreThere(Checks c, String page) throws IOException {
        Set<String> named = new TreeSet<>();
        Matcher name = Pattern.compile("`(\\w+Test)`").matcher(page);
        while (name.find()) {
            named.add(name.group(1) + ".java");
        }
        Set<String> there;
        try (Stream<Path> files = Files.list(TESTS)) {
            there = files.map(f -> f.getFileName().toString()).filter(f -> f.endsWith("Test.java"))
                .collect(Collectors.toCollection(TreeSet::new));
        }
        c.isTrue("that the tests are " + there + ", not " + named, named.equals(there));
    }

    private static void eachPromiseHasATest(Checks c, String page) {
        Set<Integer> tested = new TreeSet<>();
        Matcher row = Pattern.compile("(?m)^\\| ([^|]+) \\| `\\w+Test` \\|$").matcher(page);
        while (row.find()) {
            Matcher number = Pattern.compile("\\d+").matcher(row.group(1));
            while (number.find()) {
                tested.add(Integer.valueOf(number.group()));
            }
        }
        for (int promise = 1; promise <= 21; promise++) {
            c.isTrue("that the promise " + promise + " has a test", tested.contains(promise));
        }
    }
}
