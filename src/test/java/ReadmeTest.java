import java.io.IOException;
import java.lang.reflect.Method;
import java.lang.reflect.Modifier;
import java.nio.file.Files;
import java.nio.file.Path;
import java.util.ArrayList;
import java.util.HashSet;
import java.util.List;
import java.util.Set;
import java.util.TreeSet;
import java.util.regex.Matcher;
import java.util.regex.Pattern;
import java.util.stream.Stream;

/** README.md is so: its Java stands here line for line and runs, and answers as its comments say. */
final class ReadmeTest {
    private static final Due DUE = new Due("ReadmeTest");
    private static final Path TESTS = Path.of("src/test/java");

    private final List<String> page;

    private ReadmeTest(List<String> page) {
        this.page = page;
    }

    public static void main(String[] args) throws IOException {
        ReadmeTest test = new ReadmeTest(Files.readAllLines(Path.of("README.md")));
        test.example();
        test.itsJavaStandsHere();
        test.namesEveryCall();
        test.namesEveryTest();
        DUE.end();
    }

    // ---- the page's own Java

    static int read(SaucerFair x, String text) {
        for (int at = 0; at < text.length(); at += 20) {
            int[] row = new int[5];
            for (int i = 0; i < 20; i++) {
                row[i / 4] = row[i / 4] << 8 | (at + i < text.length() ? text.charAt(at + i) : ' ');
            }
            x.feed(row[0], row[1], row[2], row[3], row[4]);
        }
        return x.fair(text.length());
    }

    private void example() {
        SaucerFair x = new SaucerFair();
        String people = "one 0 5 3; one 10 5 0; one 5 0 7;";
        String needles = "needle 5 5 60 0; needle 0 5 4 2;";
        String sayings = "says 3 0 9; says 5 1 4;";
        int bad = read(x, people + needles + "says 3 7 9;");
        int where = x.fault();
        int fault = read(x, people + needles + sayings);
        int early = x.shows(0, 2);
        int left = x.shows(0, 4);
        int flat = x.shows(1, 4);
        int whom = x.accused(5);
        int number = x.tell(5, 0, 9);
        int spins = x.shows(0, 5);
        int nobody = x.accused(5);
        int kept = x.undo();
        int again = x.accused(5);
        asTold("bad", bad, "where", where, "fault", fault, "early", early, "left", left, "flat", flat, "whom", whom,
            "number", number, "spins", spins, "nobody", nobody, "kept", kept, "again", again);
    }

    /** Names and what they are, in turns: each as the comment behind it on the page, and no comment without one. */
    private void asTold(Object... pairs) {
        Pattern row = Pattern.compile("int (\\w+) = .*; +// (-?\\d+): .*");
        int at = 0;
        for (String line : page) {
            Matcher told = row.matcher(line);
            if (told.matches()) {
                boolean same = at < pairs.length && told.group(1).equals(pairs[at]);
                DUE.isTrue("the answer of " + told.group(1) + " is looked at", same);
                if (same) {
                    DUE.is(line, (Integer) pairs[at + 1], Integer.parseInt(told.group(2)));
                }
                at += 2;
            }
        }
        DUE.is("answers that the page tells", at, pairs.length);
    }

    private void itsJavaStandsHere() throws IOException {
        List<String> here = new ArrayList<>();
        for (String line : Files.readAllLines(TESTS.resolve("ReadmeTest.java"))) {
            here.add(line.strip());
        }
        int from = 0;
        boolean java = false;
        for (String line : page) {
            if (line.startsWith("```")) {
                java = line.equals("```java");
            } else if (java) {
                String code = line.replaceAll(" +// .*", "").strip();
                int place = here.subList(from, here.size()).indexOf(code);
                DUE.isTrue("the page's '" + code + "' stands here, behind the one ahead of it", place >= 0);
                from += place + 1;
            }
        }
    }

    // ---- what the page names

    private void namesEveryCall() {
        Set<String> want = new TreeSet<>();
        for (Method method : SaucerFair.class.getDeclaredMethods()) {
            if (Modifier.isPublic(method.getModifiers())) {
                want.add(method.getName());
            }
        }
        Set<String> got = new TreeSet<>();
        for (String line : page) {
            if (line.startsWith("| `")) {
                for (String name : quoted(line, "[a-zA-Z]+")) {
                    DUE.isTrue(name + " stands once in the table of calls", got.add(name));
                }
            }
        }
        DUE.isTrue("calls of the page " + got + ", due are " + want, got.equals(want));
    }

    private void namesEveryTest() throws IOException {
        Set<String> want = new TreeSet<>();
        try (Stream<Path> files = Files.list(TESTS)) {
            files.map(file -> file.getFileName().toString()).filter(name -> name.endsWith("Test.java"))
                .forEach(name -> want.add(name.replace(".java", "")));
        }
        Set<String> got = new TreeSet<>();
        for (String line : page) {
            got.addAll(quoted(line, "[A-Z][a-zA-Z]*Test"));
        }
        DUE.isTrue("tests of the page " + got + ", due are " + want, got.equals(want));
    }

    private static Set<String> quoted(String line, String pattern) {
        Set<String> found = new HashSet<>();
        Matcher names = Pattern.compile("`(" + pattern + ")`").matcher(line);
        while (names.find()) {
            found.add(names.group(1));
        }
        return found;
    }
}
