import java.lang.reflect.InvocationTargetException;
import java.lang.reflect.Method;
import java.util.Arrays;
import java.util.HashMap;
import java.util.Map;
import java.util.Random;

/** Runs of at most 512 calls, made up from fixed seeds, on a ProvenRecord and on the Model: all answers are alike. */
public final class RandomRunsTest {
    /** The object has been used for as many calls as the document speaks of. */
    private static final class RunOver extends RuntimeException {
        private static final long serialVersionUID = 1L;
    }

    private static final int MOST_CALLS = 512;

    // One sign a parameter: r RECORD, w WATCHER, n how many of a RECORD, N of any things, i which of n, x a MARK,
    // k a small place, q what, s a set, l a letter, z any number at all.
    private static final String[] FACE = {
        "status", "feed zzzzz", "load k", "hear k", "heard k", "fault q", "type zz", "many q", "size r", "entry riq",
        "head rn", "join xx", "mark", "frozen kq", "watcher wq", "add r", "fork rn", "freeze r", "show wrn",
        "meet wwr", "spoil rikl", "push x", "poke kx", "pad k", "cut k", "include rin", "grow rnn", "bundle rsn",
        "peaks rn", "extend Nx", "checks xINx", "growth NxNx", "bundled sNx", "fold", "steps IN", "climbs NN",
        "agree ww", "where rq", "tree rnkq", "proves kk", "longest Nq", "part rrq", "blame rq", "weak rinq",
        "clash rinxq", "forge xINxk", "trace xINk", "span INkq", "rise NNkq", "kept INN", "sick k", "chain rq",
        "split q", "tell rin", "tellGrowth rnn", "out k", "trusted nx", "saves sN", "who nx",
    };
    private static final String[] WORDS = {
        "add", "to", "fork", "freeze", "show", "mod", "in", "of", "mark", "head", "by", "grow", "a", "abcdefgh",
        "abcdefghi", "z", ";", ";", ";", "0", "1", "2", "3", "4", "101", "65521", "65522", "100", "99999", "123456",
        "!", "A", "\t", "\n", "00000", "00101",
    };

    private static final int[] EDGES = {
        Integer.MIN_VALUE, Integer.MIN_VALUE + 1, -1, 0, 1, 2, 3, 4, 5, 47, 48, 49, 63, 64, 65, 512, 513, 900, 65520, 65521,
        1000000, 1000001, 1 << 29, (1 << 30) - 1, 1 << 30, (1 << 30) + 1, Integer.MAX_VALUE - 1, Integer.MAX_VALUE,
    };

    private final Map<String, Method> ours = new HashMap<>();
    private final Map<String, Method> theirs = new HashMap<>();
    private final Random random;
    private final ProvenRecord record = new ProvenRecord();
    private final Model model = new Model();
    private final StringBuilder run = new StringBuilder();
    private int calls;
    private int known;
    private int wrong;

    private RandomRunsTest(long seed) {
        random = new Random(seed);
        for (Method m : ProvenRecord.class.getMethods()) {
            ours.put(m.getName(), m);
        }
        for (Method m : Model.class.getDeclaredMethods()) {
            if (!java.lang.reflect.Modifier.isPrivate(m.getModifiers())) {
                theirs.put(m.getName(), m);
            }
        }
    }

    public static void main(String[] args) {
        int runs = args.length > 0 ? Integer.parseInt(args[0]) : 800;
        int wrong = 0;
        for (int seed = 0; seed < runs; seed++) {
            RandomRunsTest one = new RandomRunsTest(seed);
            one.playOut();
            if (one.wrong > 0) {
                System.out.println("seed " + seed + ":\n" + one.run);
                wrong++;
            }
        }
        System.out.println(wrong == 0 ? "all runs are alike" : wrong + " runs are not alike");
        if (wrong != 0) {
            System.exit(1);
        }
    }

    private void playOut() {
        try {
            play();
        } catch (RunOver e) {
            calls = MOST_CALLS;
        }
    }

    private void play() {
        if (random.nextInt(4) > 0) {
            int m = random.nextInt(3) == 0 ? 60000 + random.nextInt(5522) : 101 + random.nextInt(300);
            call("load", feedText("mod " + m + ";"));
        }
        fill(0);
        fill(random.nextInt(2));
        while (wrong == 0) {
            switch (random.nextInt(16)) {
                case 0:
                    fill(random.nextInt(3));
                    break;
                case 1:
                    loadText();
                    break;
                case 9:
                case 10:
                case 11:
                    watch();
                    break;
                case 12:
                    forgeAndClash();
                    break;
                case 2:
                    hearText();
                    break;
                case 3:
                    hearTold();
                    break;
                case 4:
                    forgeAndClash();
                    break;
                case 5:
                    checkBundle();
                    break;
                case 6:
                    checkGrowth();
                    break;
                case 7:
                    climbPeaks();
                    break;
                case 8:
                    watch();
                    break;
                default:
                    anyCalls();
                    break;
            }
        }
    }

    private int call(String name, Object... args) {
        if (calls + 2 > MOST_CALLS) {
            throw new RunOver();
        }
        int got = invoke(ours.get(name), record, args);
        int due = invoke(theirs.get(name), model, args);
        calls++;
        run.append(name).append(Arrays.toString(args)).append(" = ").append(got).append('\n');
        // status() is a call, too: it is not asked for each time, so that runs go further.
        boolean ask = got < 0 || random.nextInt(4) == 0;
        int status = ask ? record.status() : model.status();
        calls += ask ? 1 : 0;
        if (got != due || status != model.status()) {
            wrong++;
            run.append("  due is ").append(due).append("; status ").append(status).append(", due is ")
                .append(model.status()).append('\n');
        }
        return got;
    }

    private static int invoke(Method method, Object on, Object[] args) {
        try {
            return (Integer) method.invoke(on, args);
        } catch (IllegalAccessException | InvocationTargetException e) {
            throw new IllegalStateException(method.getName() + Arrays.toString(args), e);
        }
    }

    private int number(char kind, boolean edgy) {
        if (edgy) {
            return EDGES[random.nextInt(EDGES.length)];
        }
        if (random.nextInt(40) == 0) {
            return random.nextInt(3) == 0 ? random.nextInt() : random.nextInt(140) - 70;
        }
        switch (kind) {
            case 'r':
                return random.nextInt(random.nextInt(4) == 0 ? 5 : 2);
            case 'w':
                return random.nextInt(random.nextInt(9) == 0 ? 5 : 4);
            case 'n':
            case 'i':
                return random.nextInt(known + 2);
            case 'N':
                return bounded(random.nextInt(8));
            case 'I':
                return bounded(random.nextInt(5));
            case 'x':
                return random.nextInt(random.nextInt(4) == 0 ? 65523 : 104);
            case 'k':
                return random.nextInt(random.nextInt(4) == 0 ? 50 : 5);
            case 'q':
                return random.nextInt(random.nextInt(6) == 0 ? 12 : 6) - (random.nextInt(9) == 0 ? 1 : 0);
            case 's':
                return random.nextInt() >>> 1 + random.nextInt(31);
            case 'l':
                return random.nextInt(28);
            default:
                return random.nextInt();
        }
    }

    private int bounded(int scale) {
        int[] most = {3, 10, 30, 60, 120, 600, 100000, Integer.MAX_VALUE};
        return random.nextInt(6) == 0 ? most[scale] - random.nextInt(3) : random.nextInt(most[scale]);
    }

    private void anyCalls() {
        known = entries(0);
        for (int k = 0; k < 12 && wrong == 0; k++) {
            String[] face = FACE[random.nextInt(FACE.length)].split(" ");
            Object[] args = new Object[face.length < 2 ? 0 : face[1].length()];
            boolean edgy = random.nextInt(4) == 0;
            for (int a = 0; a < args.length; a++) {
                args[a] = number(face[1].charAt(a), edgy);
            }
            call(face[0], args);
        }
    }

    private void typeWord() {
        int letters = random.nextInt(10);
        int a = 0;
        int b = 0;
        for (int k = 0; k < letters; k++) {
            int letter = 1 + random.nextInt(random.nextInt(3) == 0 ? 31 : 4);
            if (k < 6) {
                a |= letter << 5 * k;
            } else {
                b |= letter << 5 * (k - 6);
            }
        }
        call("type", a | (random.nextInt(3) == 0 ? random.nextInt(4) << 30 : 0), b);
        call("mark");
    }

    private void fill(int r) {
        int many = random.nextInt(random.nextInt(4) == 0 ? 50 : 12);
        for (int k = 0; k < many; k++) {
            if (random.nextInt(3) == 0) {
                typeWord();
            }
            call("add", r);
            if (random.nextInt(6) == 0) {
                call("freeze", r);
            }
            if (random.nextInt(20) == 0) {
                call("fork", r, random.nextInt(k + 2));
            }
        }
        call("where", r, 0);
        call("where", r, 1);
    }

    private int entries(int r) {
        return Math.max(0, call("size", r));
    }

    private int feedText(String text) {
        for (int at = 0; at < text.length() && at < 900; at += 20) {
            int[] five = new int[5];
            for (int k = 0; k < 20; k++) {
                int c = at + k < text.length() ? text.charAt(at + k) : random.nextInt(256);
                five[k / 4] |= (c & 255) << 8 * (3 - k % 4);
            }
            call("feed", five[0], five[1], five[2], five[3], five[4]);
        }
        return Math.min(text.length(), 900);
    }

    /** The tape is to have nothing ahead of the text; hear() of no bytes empties it. */
    private int feedAlone(String text) {
        call("hear", 0);
        return feedText(text);
    }

    private String line() {
        switch (random.nextInt(9)) {
            case 0:
                return "freeze;";
            case 1:
                return "fork " + random.nextInt(4) + ";";
            case 2:
                return "to " + random.nextInt(3) + "\n;";
            case 3:
                return "show " + random.nextInt(4) + " " + random.nextInt(5) + " ;\n";
            case 4:
                return "add;";
            default:
                return "add " + (char) ('a' + random.nextInt(3)) + ";";
        }
    }

    private String spoilt(String text) {
        if (random.nextInt(3) > 0) {
            return text;
        }
        int at = random.nextInt(text.length() + 1);
        int end = Math.min(text.length(), at + random.nextInt(3));
        return text.substring(0, at) + WORDS[random.nextInt(WORDS.length)] + text.substring(end);
    }

    private void loadText() {
        StringBuilder text = new StringBuilder();
        if (random.nextInt(2) == 0) {
            text.append("mod ").append(95 + random.nextInt(30)).append(';');
        }
        boolean sure = random.nextInt(4) > 0;
        int lines = random.nextInt(sure ? 60 : 25);
        for (int k = 0; k < lines && text.length() < 600; k++) {
            text.append(sure && k < 8 ? "add " + (char) ('a' + k) + ";" : line());
        }
        call("load", feedAlone(spoilt(text.toString())));
        call("fault", 0);
        call("fault", 1);
        look();
    }

    /** What there is, so that a load that went wrong is not only seen by its number. */
    private void look() {
        for (int k = 0; k < 6; k++) {
            call("many", k);
        }
        for (int k = 0; k < 4; k++) {
            int n = entries(k);
            call("head", k, n);
            call("watcher", k, random.nextInt(4));
            call("frozen", random.nextInt(6), k);
            call("chain", k, random.nextInt(3));
            call("blame", k, random.nextInt(3));
            call("sick", k);
        }
        call("split", 0);
        call("split", 1);
    }

    private String statement() {
        StringBuilder text = new StringBuilder();
        int m = random.nextInt(7);
        int n = m + random.nextInt(8);
        int marks;
        if (random.nextInt(2) == 0) {
            n++;
            marks = call("steps", m, n);
            text.append("in ").append(m).append(" of ").append(n).append(" mark ").append(random.nextInt(101));
        } else {
            marks = call("climbs", m, n);
            text.append("grow ").append(m).append(" mark ").append(random.nextInt(3)).append(" to ").append(n);
        }
        text.append(" head ").append(random.nextInt(3)).append(" by");
        marks += random.nextInt(5) == 0 ? random.nextInt(3) - 1 : 0;
        marks = random.nextInt(40) == 0 ? 64 + random.nextInt(2) : marks;
        for (int k = 0; k < marks; k++) {
            text.append(' ').append(random.nextInt(102));
        }
        return text.append(';').toString();
    }

    private void hearText() {
        StringBuilder text = new StringBuilder();
        int many = random.nextInt(random.nextInt(4) == 0 ? 24 : 6);
        for (int k = 0; k < many; k++) {
            text.append(many > 12 ? "in 0 of 1 mark 1 head " + random.nextInt(2) + " by;" : statement());
        }
        call("hear", feedAlone(spoilt(text.toString())));
        call("fault", 0);
        call("fault", 1);
        for (int k = 0; k < many + 1; k++) {
            call("heard", k);
        }
    }

    private void hearTold() {
        int n = entries(0);
        if (n == 0) {
            return;
        }
        StringBuilder text = new StringBuilder();
        for (int k = 0; k < 2; k++) {
            int size = random.nextInt(n + 1);
            int i = random.nextInt(size + 1);
            int bytes = random.nextInt(2) == 0 ? call("tell", 0, i, size) : call("tellGrowth", 0, i, size);
            for (int b = 0; b < bytes; b++) {
                text.append((char) call("out", b));
            }
            call("out", Math.max(0, bytes));
        }
        call("hear", feedAlone(text.toString()));
        call("heard", 0);
        call("heard", 1);
    }

    private void forgeAndClash() {
        int all = entries(0);
        if (all == 0) {
            return;
        }
        int n = 1 + random.nextInt(all);
        int i = random.nextInt(n);
        int marks = call("include", 0, i, n);
        int head = call("head", 0, n);
        int own = call("entry", 0, i, 1);
        call("weak", 0, i, n, 0);
        int weak = call("weak", 0, i, n, 1);
        int other = random.nextBoolean() && weak >= 0 ? weak : random.nextInt(101);
        call("checks", own, i, n, head);
        call("checks", other, i, n, head);
        clashes(i, n, own);
        clashes(i, n, other);
        for (int k = 0; k < marks; k++) {
            int forged = call("forge", other, i, n, head, k);
            call("forge", own, i, n, head, k);
            if (forged >= 0) {
                int was = call("poke", k, forged);
                call("checks", other, i, n, head);
                clashes(i, n, other);
                if (random.nextBoolean()) {
                    call("poke", k, was);
                }
            }
            call("trace", other, i, n, k);
        }
        call("trace", other, i, n, marks + random.nextInt(2));
        if (random.nextBoolean()) {
            forgeFar();
        }
    }

    /** The VERIFIER is told of more things than any RECORD has. */
    private void forgeFar() {
        int n = Math.max(1, bounded(random.nextInt(8)));
        int i = random.nextInt(n);
        int marks = call("steps", i, n);
        call("cut", 0);
        for (int k = 0; k < marks; k++) {
            call("push", random.nextInt(101));
        }
        int mark = random.nextInt(101);
        for (int k = 0; k < 4; k++) {
            int at = random.nextInt(marks + 1);
            int head = random.nextInt(101);
            call("trace", mark, i, n, at);
            int forged = call("forge", mark, i, n, head, at);
            if (forged >= 0) {
                call("poke", at, forged);
            }
            call("checks", mark, i, n, head);
            call("span", i, n, at, 0);
            call("span", i, n, at, 1);
            call("kept", i, n, n + random.nextInt(Math.min(n, Integer.MAX_VALUE - n) + 1));
        }
    }

    private void clashes(int i, int n, int mark) {
        for (int what = 0; what < 5; what++) {
            call("clash", 0, i, n, mark, what);
        }
    }

    private void checkBundle() {
        int all = entries(0);
        if (all == 0) {
            return;
        }
        int n = 1 + random.nextInt(all);
        int set = random.nextInt() & (1 << Math.min(30, n)) - 1 & (random.nextBoolean() ? random.nextInt() : -1);
        if (random.nextInt(16) == 0) {
            set |= 1 << 30;
        }
        int head = call("head", 0, n);
        int others = call("bundle", 0, set, n);
        call("saves", set, n);
        call("bundled", set, n, head);
        if (others < 0) {
            return;
        }
        int[] row = new int[others];
        for (int k = 0; k < others; k++) {
            row[k] = call("pad", k);
        }
        call("cut", 0);
        for (int b = 0; b < 30; b++) {
            if ((set >> b & 1) == 1) {
                call("push", call("entry", 0, b, 1));
            }
        }
        for (int k = 0; k < others; k++) {
            call("bundled", set, n, head);
            call("push", row[k]);
        }
        call("bundled", set, n, head);
        call("push", 0);
        call("bundled", set, n, head);
    }

    private void checkGrowth() {
        int all = entries(0);
        int n = random.nextInt(all + 1);
        int m = random.nextInt(n + 1);
        int marks = call("grow", 0, m, n);
        int older = call("head", 0, m);
        int newer = call("head", 0, n);
        call("growth", m, older, n, newer);
        call("growth", m, older, n, random.nextInt(101));
        call("growth", m, random.nextInt(101), n, newer);
        for (int k = 0; k <= marks; k++) {
            call("rise", m, n, k, 0);
            call("rise", m, n, k, 1);
        }
        if (marks > 0) {
            call("poke", random.nextInt(marks), random.nextInt(101));
            call("growth", m, older, n, newer);
            call("cut", marks - 1);
            call("growth", m, older, n, newer);
        }
    }

    private void climbPeaks() {
        int n = random.nextInt(entries(0) + 1);
        call("peaks", 0, n);
        call("fold");
        for (int k = 0; k < 10; k++) {
            call("extend", n + k, random.nextInt(101));
            call("fold");
        }
        for (int k = 0; k < 4; k++) {
            call("tree", 0, n, random.nextInt(2 * n + 1), k);
        }
        call("longest", 1 + random.nextInt(512), random.nextInt(3));
        int r = n + 1 + random.nextInt(100);
        call("kept", random.nextInt(n + 1), n + 1, r);
    }

    private void watch() {
        for (int k = 0; k < 10; k++) {
            int r = random.nextInt(2);
            switch (random.nextInt(7)) {
                case 0:
                    call("spoil", r, random.nextInt(entries(r) + 1), random.nextInt(2), 1 + random.nextInt(26));
                    break;
                case 1:
                    call("meet", random.nextInt(4), random.nextInt(4), r);
                    break;
                case 2:
                    call("fork", r, random.nextInt(entries(r) + 1));
                    break;
                case 3:
                    typeWord();
                    call("add", r);
                    break;
                default:
                    call("show", random.nextInt(4), r, random.nextInt(entries(r) + 1));
                    break;
            }
            call("agree", random.nextInt(4), random.nextInt(4));
            call("part", random.nextInt(3), random.nextInt(3), random.nextInt(2));
            call("proves", random.nextInt(4), random.nextInt(4));
            int w = random.nextInt(4);
            int size = call("watcher", w, 0);
            int head = call("watcher", w, 1);
            call("trusted", size, head);
            call("who", size, head);
        }
        look();
    }
}
