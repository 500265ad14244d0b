import java.io.IOException;
import java.nio.file.Files;
import java.nio.file.Path;
import java.util.ArrayList;
import java.util.List;
import java.util.Set;
import java.util.TreeSet;
import java.util.regex.Matcher;
import java.util.regex.Pattern;

/** The examples of README.md compile and answer what it says behind them, and each call of the document stands there. */
public final class ReadmeTest {
    private static final Path README = Path.of("README.md");
    private static final Path DOCUMENT = Path.of("../shared/DOC.md");
    private static final Path SOURCE = Path.of("src/main/java/ProvenRecord.java");
    private static final Pattern BLOCK = Pattern.compile("(?s)```java\n(.*?)```");
    private static final Pattern ANSWERED = Pattern.compile("(int \\w+ = )?([xy]\\.\\w+\\(.*\\));\\s+// (-?\\d+): .*");

    private static int wrong = 0;

    private ReadmeTest() {
    }

    public static void main(String[] args) throws IOException, InterruptedException {
        String page = Files.readString(README);
        theExamples(page);
        allCallsAreNamed(page);
        allTestsAreNamed(page);
        System.out.println(wrong == 0 ? "README.md says what is so" : wrong + " things in README.md are wrong");
        if (wrong != 0) {
            System.exit(1);
        }
    }

    private static void must(boolean holds, String what) {
        if (!holds) {
            wrong++;
            System.out.println("not so: " + what);
        }
    }

    private static void theExamples(String page) throws IOException, InterruptedException {
        StringBuilder members = new StringBuilder();
        StringBuilder rows = new StringBuilder();
        int answers = 0;
        Matcher block = BLOCK.matcher(page);
        while (block.find()) {
            if (block.group(1).startsWith("static ")) {
                members.append(block.group(1));
                continue;
            }
            for (String row : block.group(1).split("\n")) {
                Matcher answered = ANSWERED.matcher(row);
                boolean due = answered.matches();
                must(due || row.startsWith("ProvenRecord "), "an example's row has its answer: " + row);
                answers += due ? 1 : 0;
                rows.append(due ? dueRow(answered) : row).append('\n');
            }
        }
        must(answers > 20, "there are examples, and not " + answers);
        run("public final class Examples {\n" + "static int wrong = 0;\n" + members
            + "static int due(String call, int got, int want) {\n"
            + "if (got != want) { wrong++; System.out.println(call + \" answered \" + got + \", README.md says \" + want); }\n"
            + "return got; }\n"
            + "public static void main(String[] args) {\n" + rows + "System.exit(wrong == 0 ? 0 : 1); }\n}\n");
    }

    private static String dueRow(Matcher answered) {
        String call = answered.group(2);
        String begin = answered.group(1) == null ? "" : answered.group(1);
        return begin + "due(\"" + call.replace("\"", "\\\"") + "\", " + call + ", " + answered.group(3) + ");";
    }

    private static void run(String examples) throws IOException, InterruptedException {
        Path room = Files.createTempDirectory("readme");
        Path file = room.resolve("Examples.java");
        Files.writeString(file, examples);
        boolean compiled = ended("javac", "-encoding", "UTF-8", "-d", room.toString(), SOURCE.toString(), file.toString());
        must(compiled, "the examples compile");
        must(compiled && ended("java", "-cp", room.toString(), "Examples"), "the examples answer as README.md says");
        remove(room);
    }

    private static boolean ended(String... command) throws IOException, InterruptedException {
        return new ProcessBuilder(command).inheritIO().start().waitFor() == 0;
    }

    private static void remove(Path room) throws IOException {
        List<Path> all = new ArrayList<>();
        try (var files = Files.walk(room)) {
            files.forEach(all::add);
        }
        for (int k = all.size() - 1; k >= 0; k--) {
            Files.delete(all.get(k));
        }
    }

    private static Set<String> foundIn(String text, String pattern) {
        Set<String> names = new TreeSet<>();
        Matcher one = Pattern.compile(pattern).matcher(text);
        while (one.find()) {
            names.add(one.group(1));
        }
        return names;
    }

    private static void allCallsAreNamed(String page) throws IOException {
        String table = page.substring(page.indexOf("### All calls"), page.indexOf("At most there are"));
        Set<String> due = foundIn(Files.readString(DOCUMENT), "    public int (\\w+)\\(");
        Set<String> named = foundIn(table, "`(\\w+)`");
        must(named.equals(due), "the calls named are " + due + ", and not " + named);
    }

    private static void allTestsAreNamed(String page) throws IOException {
        try (var files = Files.list(Path.of("src/test/java"))) {
            files.map(f -> f.getFileName().toString()).filter(f -> f.endsWith("Test.java")).forEach(f -> {
                String name = f.substring(0, f.length() - ".java".length());
                boolean named = page.contains("`" + name + "`") || page.contains("`.." + name.replace("EdgesOf", "") + "`");
                must(named, name + " is named");
            });
        }
    }
}
