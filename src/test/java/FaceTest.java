import java.io.IOException;
import java.lang.management.ManagementFactory;
import java.lang.reflect.Field;
import java.lang.reflect.Member;
import java.lang.reflect.Method;
import java.lang.reflect.Modifier;
import java.nio.file.Files;
import java.nio.file.Path;
import java.util.Arrays;
import java.util.Set;
import java.util.TreeSet;
import java.util.regex.Matcher;
import java.util.regex.Pattern;

/** The public face is the document's, the file keeps to the rules that can be seen in it, and calls make nothing. */
public final class FaceTest {
    private static final Path SOURCE = Path.of("src/main/java/ProvenRecord.java");
    private static final Path DOCUMENT = Path.of("../shared/DOC.md");
    private static final int MOST_CLASSES = 12;
    private static final int MOST_FIELDS = 20;

    private static int wrong = 0;

    private FaceTest() {
    }

    public static void main(String[] args) throws IOException {
        theFace();
        theClasses();
        theSource();
        theRoom();
        System.out.println(wrong == 0 ? "the face is as due" : wrong + " things are wrong");
        if (wrong != 0) {
            System.exit(1);
        }
    }

    private static void must(boolean holds, String what) {
        if (!holds) {
            wrong++;
            System.out.println("not so: " + what);
        }
    }

    private static void theFace() throws IOException {
        Set<String> due = new TreeSet<>();
        Matcher line = Pattern.compile("    public int (\\w+)\\(([^)]*)\\);").matcher(Files.readString(DOCUMENT));
        while (line.find()) {
            due.add(line.group(1) + " " + (line.group(2).isEmpty() ? 0 : line.group(2).split(",").length));
        }
        Set<String> got = new TreeSet<>();
        Set<String> others = new TreeSet<>();
        for (Method m : ProvenRecord.class.getDeclaredMethods()) {
            if (Modifier.isPublic(m.getModifiers())) {
                got.add(m.getName() + " " + m.getParameterCount());
                must(m.getReturnType() == int.class && !Modifier.isStatic(m.getModifiers()), m + " is a plain int call");
            } else {
                must(Modifier.isPrivate(m.getModifiers()), m + " is private");
                others.add(m.getName());
            }
        }
        must(due.size() == 59, "the document has 59 calls, and not " + due.size());
        must(got.equals(due), "the calls are " + due + ", and not " + got);
        for (Class<?> inside : ProvenRecord.class.getDeclaredClasses()) {
            for (Method m : inside.getDeclaredMethods()) {
                others.add(m.getName());
            }
        }
        for (String name : due) {
            must(!others.contains(name.split(" ")[0]), "no other method is named " + name);
        }
        must(Modifier.isFinal(ProvenRecord.class.getModifiers()), "the class is final");
        must(ProvenRecord.class.getConstructors().length == 1, "one public constructor");
        for (Field f : ProvenRecord.class.getDeclaredFields()) {
            must(Modifier.isPrivate(f.getModifiers()) || f.getName().equals("NONE"), f + " is private");
        }
    }

    private static void theClasses() {
        Class<?>[] inside = ProvenRecord.class.getDeclaredClasses();
        must(inside.length + 1 <= MOST_CLASSES, "at most " + MOST_CLASSES + " classes");
        fieldsOf(ProvenRecord.class);
        for (Class<?> one : inside) {
            must(Modifier.isStatic(one.getModifiers()), one + " is static");
            fieldsOf(one);
        }
    }

    private static void fieldsOf(Class<?> one) {
        long own = Arrays.stream(one.getDeclaredFields()).filter(f -> !Modifier.isStatic(f.getModifiers())).count();
        must(own <= MOST_FIELDS, one + " has at most " + MOST_FIELDS + " fields, and not " + own);
        for (Field f : one.getDeclaredFields()) {
            boolean constant = !Modifier.isStatic(f.getModifiers()) || Modifier.isFinal(f.getModifiers());
            must(constant, f + " is no static state");
        }
        for (Member m : one.getDeclaredMethods()) {
            must(!m.isSynthetic(), m + " is written in the source");
        }
    }

    private static void theSource() throws IOException {
        String bare = Files.readString(SOURCE).replaceAll("(?s)/\\*.*?\\*/", "").replaceAll("//[^\n]*", "")
            .replaceAll("\"[^\"\n]*\"", "\"\"");
        for (String word : new String[] {"throw", "throws", "try", "catch", "synchronized", "assert", "import", "package",
            "protected", "volatile", "transient", "native", "var", "equals", "hashCode", "toString"}) {
            must(!Pattern.compile("\\b" + word + "\\b").matcher(bare).find(), "no word '" + word + "'");
        }
        must(!bare.contains("->") && !bare.contains("::"), "no lambda, no method reference");
        must(!Pattern.compile("\\bwhile\\b|for \\(;;").matcher(bare).find(), "every loop has a counter");
        int begin = 0;
        int lines = 0;
        for (String row : bare.split("\n")) {
            lines++;
            if (row.matches(" {4,8}[a-zA-Z].*\\) \\{") && !row.contains(" class ")) {
                begin = lines;
                must(row.replaceAll("[^,]", "").length() < 7, "at most seven parameters: " + row);
            }
            if (row.matches(" {4,8}\\}")) {
                must(lines - begin < 60 || begin == 0, "a method ends within sixty lines: line " + lines);
                begin = 0;
            }
        }
    }

    /** Rows are made in the constructor (and once for roots), so 512 calls make next to nothing. */
    private static void theRoom() {
        com.sun.management.ThreadMXBean bean = (com.sun.management.ThreadMXBean) ManagementFactory.getThreadMXBean();
        ProvenRecord x = Due.loaded("add a;".repeat(20) + "freeze;fork 9;add;freeze;show 0 8;");
        callAll(x);
        long thread = Thread.currentThread().getId();
        long before = bean.getThreadAllocatedBytes(thread);
        for (int k = 0; k < 500; k++) {
            callAll(x);
        }
        long made = bean.getThreadAllocatedBytes(thread) - before;
        must(made < 100000, "calls make nothing, and not " + made + " bytes");
    }

    private static void callAll(ProvenRecord x) {
        x.weak(0, 3, 20, 1);
        x.include(0, 3, 20);
        x.forge(5, 3, 20, 7, 2);
        x.clash(0, 3, 20, 7, 0);
        x.bundle(0, 77, 20);
        x.bundled(77, 20, 1);
        x.grow(0, 7, 20);
        x.growth(7, 1, 20, 1);
        x.meet(0, 1, 0);
        x.show(2, 1, 9);
        x.chain(0, 2);
        x.part(0, 1, 0);
        x.split(0);
        x.tell(0, 3, 20);
        x.longest(512, 2);
        x.sick(0);
        x.kept(3, 20, 900);
        x.saves(77, 20);
        x.type(99, 0);
        x.where(0, 1);
        x.peaks(0, 19);
        x.extend(19, 1);
        x.feed(0x20202020, 0x20202020, 0x20202020, 0x20202020, 0x20202020);
        x.hear(20);
    }
}
