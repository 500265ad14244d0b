import java.util.ArrayList;
import java.util.List;
import java.util.Set;
import java.util.TreeSet;

/** The document once more, as slowly and as literally as can be: what ProvenRecord is compared with. */
final class Model {
    static final int NONE = -1;

    record Tree(int first, int many) {
    }

    record Head(int record, int size, int mark, int tick, List<Integer> peaks) {
    }

    record Token(char kind, String text, int place) {
        int value() {
            return Integer.parseInt(text);
        }
    }

    static final class Fault extends RuntimeException {
        private static final long serialVersionUID = 1L;
        final int kind;
        final int place;

        Fault(int kind, int place) {
            this.kind = kind;
            this.place = place;
        }
    }

    /** What load() makes anew. */
    static final class State {
        int m = 65521;
        List<List<String>> records = new ArrayList<>();
        List<Head> frozen = new ArrayList<>();
        int[] size = new int[4];
        int[] head = new int[4];
        int[] shown = new int[4];
        boolean[] alarmed = new boolean[4];
        int acts;

        State() {
            records.add(new ArrayList<>());
        }
    }

    private int status;
    private State s = new State();
    private List<Integer> pad = new ArrayList<>();
    private StringBuilder tape = new StringBuilder();
    private String word = "";
    private List<Integer> heard = new ArrayList<>();
    private int faultKind = NONE;
    private int faultPlace = NONE;
    private String out = "";

    private int no(int why) {
        status = why;
        return NONE;
    }

    private int yes(int answer) {
        status = 0;
        return answer;
    }

    // ---- Terms

    private static int mix(int m, int h, int x) {
        return (int) (((long) h * h + 3L * h + x + 7) % m);
    }

    private static int both(int m, int a, int b) {
        return mix(m, mix(m, 2, a), b);
    }

    private static int wordMark(int m, String w) {
        int h = 1;
        for (char c : w.toCharArray()) {
            h = mix(m, h, c - 'a' + 1);
        }
        return h;
    }

    private static int p(int n) {
        int power = 1;
        while (2L * power < n) {
            power *= 2;
        }
        return power;
    }

    private static int treeMark(int m, List<String> things) {
        int n = things.size();
        if (n == 0) {
            return 0;
        }
        if (n == 1) {
            return wordMark(m, things.get(0));
        }
        return both(m, treeMark(m, things.subList(0, p(n))), treeMark(m, things.subList(p(n), n)));
    }

    private static int head(State s, int record, int n) {
        return treeMark(s.m, s.records.get(record).subList(0, n));
    }

    private static List<Tree> inclusion(int from, int i, int n) {
        List<Tree> trees = new ArrayList<>();
        if (n == 1) {
            return trees;
        }
        int p = p(n);
        if (i < p) {
            trees.addAll(inclusion(from, i, p));
            trees.add(new Tree(from + p, n - p));
        } else {
            trees.addAll(inclusion(from + p, i - p, n - p));
            trees.add(new Tree(from, p));
        }
        return trees;
    }

    private static List<Tree> growthTrees(int m, int n) {
        return m == 0 || m == n ? new ArrayList<>() : growthIn(0, m, n, true);
    }

    private static List<Tree> growthIn(int from, int m, int n, boolean whole) {
        List<Tree> trees = new ArrayList<>();
        if (m == n) {
            if (!whole) {
                trees.add(new Tree(from, n));
            }
            return trees;
        }
        int p = p(n);
        if (m <= p) {
            trees.addAll(growthIn(from, m, p, whole));
            trees.add(new Tree(from + p, n - p));
        } else {
            trees.addAll(growthIn(from + p, m - p, n - p, false));
            trees.add(new Tree(from, p));
        }
        return trees;
    }

    private static boolean touches(int set, long from, long n) {
        for (int b = 0; b < 30; b++) {
            if ((set >> b & 1) == 1 && b >= from && b < from + n) {
                return true;
            }
        }
        return false;
    }

    private static List<Tree> bundleTrees(int set, int from, int n) {
        List<Tree> trees = new ArrayList<>();
        if (!touches(set, from, n)) {
            trees.add(new Tree(from, n));
        } else if (n > 1) {
            trees.addAll(bundleTrees(set, from, p(n)));
            trees.addAll(bundleTrees(set, from + p(n), n - p(n)));
        }
        return trees;
    }

    private static List<Integer> marks(State s, int record, List<Tree> trees) {
        List<Integer> row = new ArrayList<>();
        for (Tree t : trees) {
            row.add(treeMark(s.m, s.records.get(record).subList(t.first, t.first + t.many)));
        }
        return row;
    }

    private static List<Integer> peakMarks(State s, int record, int n) {
        List<Tree> trees = new ArrayList<>();
        int from = 0;
        for (int width = 1 << 20; width > 0; width /= 2) {
            if ((n & width) != 0) {
                trees.add(new Tree(from, width));
                from += width;
            }
        }
        return marks(s, record, trees);
    }

    private static int foldIn(int m, int mark, int i, int n, List<Integer> row) {
        if (n == 1) {
            return mark;
        }
        int last = row.get(row.size() - 1);
        List<Integer> rest = row.subList(0, row.size() - 1);
        return i < p(n) ? both(m, foldIn(m, mark, i, p(n), rest), last)
            : both(m, last, foldIn(m, mark, i - p(n), n - p(n), rest));
    }

    private static int whyIn(int m, int mark, int i, int n, int head, List<Integer> row) {
        int due = inclusion(0, i, n).size();
        if (row.size() != due) {
            return row.size() < due ? 1 : 2;
        }
        return foldIn(m, mark, i, n, row) == head ? 0 : 3;
    }

    /** The older and the newer MARK that GROWTH IN folds to. */
    private static int[] foldGrow(int mod, int m, int n, boolean whole, int older, List<Integer> row) {
        if (m == n) {
            int x = whole ? older : row.get(0);
            return new int[] {x, x};
        }
        int last = row.get(row.size() - 1);
        List<Integer> rest = row.subList(0, row.size() - 1);
        if (m <= p(n)) {
            int[] f = foldGrow(mod, m, p(n), whole, older, rest);
            return new int[] {f[0], both(mod, f[1], last)};
        }
        int[] f = foldGrow(mod, m - p(n), n - p(n), false, older, rest);
        return new int[] {both(mod, last, f[0]), both(mod, last, f[1])};
    }

    private static int whyGrow(int mod, int m, int older, int n, int newer, List<Integer> row) {
        int due = growthTrees(m, n).size();
        if (row.size() != due) {
            return row.size() < due ? 1 : 2;
        }
        if (m == 0 && older != 0 || m == n && older != newer) {
            return 3;
        }
        if (m == 0 || m == n) {
            return 0;
        }
        int[] f = foldGrow(mod, m, n, true, older, row);
        return f[0] != older ? 3 : f[1] != newer ? 4 : 0;
    }

    private static int foldBundle(int m, int set, int from, int n, List<Integer> members, List<Integer> others) {
        if (!touches(set, from, n)) {
            return others.remove(0);
        }
        if (n == 1) {
            return members.remove(0);
        }
        int left = foldBundle(m, set, from, p(n), members, others);
        return both(m, left, foldBundle(m, set, from + p(n), n - p(n), members, others));
    }

    private static boolean sound(State s, Head h) {
        return head(s, h.record, h.size) == h.mark;
    }

    private static int doShow(State s, int watcher, int record, int n) {
        s.acts++;
        s.shown[watcher]++;
        int head = head(s, record, n);
        int t = s.size[watcher];
        int why;
        if (t > s.records.get(record).size()) {
            why = 5;
        } else if (t > n) {
            why = whyGrow(s.m, n, head, t, s.head[watcher], marks(s, record, growthTrees(n, t)));
        } else {
            why = whyGrow(s.m, t, s.head[watcher], n, head, marks(s, record, growthTrees(t, n)));
        }
        if (why == 0 && n > t) {
            s.size[watcher] = n;
            s.head[watcher] = head;
        }
        s.alarmed[watcher] |= why != 0 && why != 5;
        return why;
    }

    private static int doFreeze(State s, int record) {
        int n = s.records.get(record).size();
        s.frozen.add(new Head(record, n, head(s, record, n), s.acts, peakMarks(s, record, n)));
        s.acts++;
        return s.frozen.size() - 1;
    }

    private boolean record(int r) {
        return r >= 0 && r < s.records.size();
    }

    private static boolean watcherThere(int w) {
        return w >= 0 && w < 4;
    }

    private boolean markLike(int... marks) {
        for (int x : marks) {
            if (x < 0 || x >= s.m) {
                return false;
            }
        }
        return true;
    }

    private int entries(int r) {
        return s.records.get(r).size();
    }

    private static List<Integer> members(int set) {
        List<Integer> all = new ArrayList<>();
        for (int b = 0; b < 30; b++) {
            if ((set >> b & 1) == 1) {
                all.add(b);
            }
        }
        return all;
    }

    private static boolean wrongSet(int set) {
        return set <= 0;
    }

    /** A set is of things 0 to 29: a bit above these is none of any things. */
    private static boolean allBelow(int set, int n) {
        for (int i : members(set)) {
            if (i >= n) {
                return false;
            }
        }
        return set >> 30 == 0;
    }

    // ---- texts

    private static List<Token> tokens(String text) {
        List<Token> all = new ArrayList<>();
        int at = 0;
        while (at < text.length()) {
            char c = text.charAt(at);
            int end = at + 1;
            if (c == 10 || c == 32) {
                at++;
                continue;
            }
            if (c >= 'a' && c <= 'z') {
                while (end < text.length() && text.charAt(end) >= 'a' && text.charAt(end) <= 'z') {
                    end++;
                }
                all.add(new Token('w', text.substring(at, end), at));
            } else if (c >= '0' && c <= '9') {
                while (end < text.length() && text.charAt(end) >= '0' && text.charAt(end) <= '9') {
                    end++;
                }
                all.add(new Token(end - at > 5 ? '!' : 'n', text.substring(at, end), at));
            } else {
                all.add(new Token(c == ';' ? ';' : '!', "" + c, at));
            }
            at = end;
        }
        all.add(new Token('.', "", text.length()));
        return all;
    }

    private static Token need(List<Token> tokens, char kind) {
        Token t = tokens.remove(0);
        if (t.kind != kind) {
            throw new Fault(t.kind == '!' ? 1 : 2, t.place);
        }
        return t;
    }

    private static int number(List<Token> tokens, int least, int most) {
        Token t = need(tokens, 'n');
        if (t.value() < least || t.value() > most) {
            throw new Fault(3, t.place);
        }
        return t.value();
    }

    private static void word(List<Token> tokens, String text) {
        Token t = need(tokens, 'w');
        if (!t.text.equals(text)) {
            throw new Fault(2, t.place);
        }
    }

    private static State read(String text) {
        State s = new State();
        List<Token> tokens = tokens(text);
        if (tokens.get(0).text.equals("mod")) {
            tokens.remove(0);
            s.m = number(tokens, 101, 65521);
            need(tokens, ';');
        }
        int hand = 0;
        while (tokens.get(0).kind != '.') {
            hand = readLine(s, tokens, hand);
        }
        return s;
    }

    private static int readLine(State s, List<Token> tokens, int hand) {
        Token first = need(tokens, 'w');
        List<String> at = s.records.get(hand);
        int now = hand;
        switch (first.text) {
            case "add":
                String w = "";
                full(at.size() >= 48, first);
                if (tokens.get(0).kind == 'w') {
                    Token t = need(tokens, 'w');
                    if (t.text.length() > 8) {
                        throw new Fault(4, t.place);
                    }
                    w = t.text;
                }
                at.add(w);
                s.acts++;
                break;
            case "to":
                now = number(tokens, 0, s.records.size() - 1);
                break;
            case "fork":
                full(s.records.size() >= 4, first);
                s.records.add(new ArrayList<>(at.subList(0, number(tokens, 0, at.size()))));
                now = s.records.size() - 1;
                s.acts++;
                break;
            case "freeze":
                full(s.frozen.size() >= 16, first);
                doFreeze(s, hand);
                break;
            case "show":
                int watcher = number(tokens, 0, 3);
                doShow(s, watcher, hand, number(tokens, 0, at.size()));
                break;
            default:
                throw new Fault(2, first.place);
        }
        need(tokens, ';');
        return now;
    }

    private static void full(boolean is, Token at) {
        if (is) {
            throw new Fault(6, at.place);
        }
    }

    private List<Integer> readProofs(String text) {
        List<Token> tokens = tokens(text);
        List<Integer> whys = new ArrayList<>();
        while (tokens.get(0).kind != '.') {
            Token first = need(tokens, 'w');
            boolean in = first.text.equals("in");
            if (!in && !first.text.equals("grow")) {
                throw new Fault(2, first.place);
            }
            full(whys.size() >= 20, first);
            int a = number(tokens, 0, 99999);
            int n = 0;
            if (in) {
                word(tokens, "of");
                n = number(tokens, a + 1, 99999);
            }
            word(tokens, "mark");
            int mark = number(tokens, 0, s.m - 1);
            if (!in) {
                word(tokens, "to");
                n = number(tokens, a, 99999);
            }
            word(tokens, "head");
            int head = number(tokens, 0, s.m - 1);
            word(tokens, "by");
            List<Integer> row = new ArrayList<>();
            while (tokens.get(0).kind == 'n') {
                Token t = tokens.get(0);
                row.add(number(tokens, 0, s.m - 1));
                full(row.size() > 64, t);
            }
            need(tokens, ';');
            whys.add(in ? whyIn(s.m, mark, a, n, head, row) : whyGrow(s.m, a, mark, n, head, row));
        }
        return whys;
    }

    // ---- the face

    int status() {
        return status;
    }

    int feed(int a, int b, int c, int d, int e) {
        if (tape.length() + 20 > 900) {
            return NONE;
        }
        for (int x : new int[] {a, b, c, d, e}) {
            for (int k = 3; k >= 0; k--) {
                tape.append((char) (x >> 8 * k & 255));
            }
        }
        return tape.length();
    }

    int load(int n) {
        if (n < 0 || n > tape.length()) {
            return no(1);
        }
        String text = tape.substring(0, n);
        tape.setLength(0);
        try {
            s = read(text);
        } catch (Fault f) {
            faultKind = f.kind;
            faultPlace = f.place;
            return no(9);
        }
        faultKind = 0;
        faultPlace = NONE;
        pad.clear();
        return yes(s.records.size());
    }

    int hear(int n) {
        if (n < 0 || n > tape.length()) {
            return no(1);
        }
        String text = tape.substring(0, n);
        tape.setLength(0);
        try {
            heard = readProofs(text);
        } catch (Fault f) {
            faultKind = f.kind;
            faultPlace = f.place;
            return no(9);
        }
        faultKind = 0;
        faultPlace = NONE;
        int taken = 0;
        for (int why : heard) {
            taken += why == 0 ? 1 : 0;
        }
        return yes(taken);
    }

    int heard(int k) {
        return k < 0 ? no(1) : k >= heard.size() ? no(5) : yes(heard.get(k));
    }

    int fault(int what) {
        return what == 0 ? faultKind : what == 1 ? faultPlace : NONE;
    }

    int type(int a, int b) {
        String w = "";
        long bits = a & 0x3fffffffL | (b & 0x3fffffffL) << 30;
        for (int k = 0; k < 8; k++) {
            int letter = (int) (bits >> 5 * k & 31);
            if (letter == 0) {
                break;
            }
            if (letter > 26) {
                return NONE;
            }
            w += (char) ('a' + letter - 1);
        }
        word = w;
        return w.length();
    }

    int many(int what) {
        if (what < 0 || what > 5) {
            return no(1);
        }
        int alarmed = 0;
        for (int w = 0; w < 4; w++) {
            alarmed += s.alarmed[w] ? 1 << w : 0;
        }
        return yes(new int[] {s.records.size(), s.m, pad.size(), s.frozen.size(), s.acts, alarmed}[what]);
    }

    int size(int record) {
        return record(record) ? yes(entries(record)) : no(2);
    }

    int entry(int record, int i, int what) {
        if (i < 0 || what < 0) {
            return no(1);
        }
        if (!record(record)) {
            return no(2);
        }
        if (i >= entries(record)) {
            return no(5);
        }
        String w = s.records.get(record).get(i);
        if (what < 2) {
            return yes(what == 0 ? w.length() : wordMark(s.m, w));
        }
        return what - 2 >= w.length() ? no(5) : yes(w.charAt(what - 2) - 'a' + 1);
    }

    int head(int record, int size) {
        if (size < 0) {
            return no(1);
        }
        return !record(record) ? no(2) : size > entries(record) ? no(5) : yes(head(s, record, size));
    }

    int join(int first, int second) {
        return markLike(first, second) ? yes(both(s.m, first, second)) : no(1);
    }

    int mark() {
        return yes(wordMark(s.m, word));
    }

    int frozen(int i, int what) {
        if (i < 0 || what < 0 || what > 4) {
            return no(1);
        }
        if (i >= s.frozen.size()) {
            return no(5);
        }
        Head h = s.frozen.get(i);
        return yes(new int[] {h.record, h.size, h.mark, h.tick, sound(s, h) ? 1 : 0}[what]);
    }

    int watcher(int w, int what) {
        if (what < 0 || what > 3) {
            return no(1);
        }
        return watcherThere(w) ? yes(new int[] {s.size[w], s.head[w], s.alarmed[w] ? 1 : 0, s.shown[w]}[what]) : no(2);
    }

    int add(int record) {
        if (!record(record)) {
            return no(2);
        }
        if (entries(record) >= 48) {
            return no(3);
        }
        s.records.get(record).add(word);
        s.acts++;
        return yes(entries(record) - 1);
    }

    int fork(int record, int size) {
        if (size < 0) {
            return no(1);
        }
        if (!record(record)) {
            return no(2);
        }
        if (s.records.size() >= 4) {
            return no(3);
        }
        if (size > entries(record)) {
            return no(5);
        }
        s.records.add(new ArrayList<>(s.records.get(record).subList(0, size)));
        s.acts++;
        return yes(s.records.size() - 1);
    }

    int freeze(int record) {
        return !record(record) ? no(2) : s.frozen.size() >= 16 ? no(3) : yes(doFreeze(s, record));
    }

    int show(int watcher, int record, int size) {
        if (size < 0) {
            return no(1);
        }
        if (!watcherThere(watcher) || !record(record)) {
            return no(2);
        }
        return size > entries(record) ? no(5) : yes(doShow(s, watcher, record, size));
    }

    int meet(int watcher, int other, int record) {
        if (!watcherThere(watcher) || !watcherThere(other) || !record(record)) {
            return no(2);
        }
        s.acts++;
        int a = s.size[watcher] <= s.size[other] ? watcher : other;
        int b = a == watcher ? other : watcher;
        if (s.size[b] > entries(record)) {
            return yes(5);
        }
        List<Integer> row = marks(s, record, growthTrees(s.size[a], s.size[b]));
        int why = whyGrow(s.m, s.size[a], s.head[a], s.size[b], s.head[b], row);
        if (why == 0) {
            s.size[a] = s.size[b];
            s.head[a] = s.head[b];
        } else {
            s.alarmed[a] = true;
            s.alarmed[b] = true;
        }
        return yes(why);
    }

    int spoil(int record, int i, int k, int letter) {
        if (letter < 1 || letter > 26 || i < 0 || k < 0) {
            return no(1);
        }
        if (!record(record)) {
            return no(2);
        }
        if (i >= entries(record) || k >= s.records.get(record).get(i).length()) {
            return no(5);
        }
        String w = s.records.get(record).get(i);
        int was = w.charAt(k) - 'a' + 1;
        if (was == letter) {
            return no(5);
        }
        s.records.get(record).set(i, w.substring(0, k) + (char) ('a' + letter - 1) + w.substring(k + 1));
        s.acts++;
        return yes(was);
    }

    int push(int mark) {
        if (!markLike(mark)) {
            return no(1);
        }
        if (pad.size() >= 64) {
            return no(3);
        }
        pad.add(mark);
        return yes(pad.size());
    }

    int poke(int k, int mark) {
        if (k < 0 || !markLike(mark)) {
            return no(1);
        }
        return k >= pad.size() ? no(5) : yes(pad.set(k, mark));
    }

    int pad(int k) {
        return k < 0 ? no(1) : k >= pad.size() ? no(5) : yes(pad.get(k));
    }

    int cut(int n) {
        if (n < 0) {
            return no(1);
        }
        if (n > pad.size()) {
            return no(5);
        }
        pad = new ArrayList<>(pad.subList(0, n));
        return yes(n);
    }

    private int wrongIn(int record, int i, int n) {
        return i < 0 || n < 0 ? 1 : !record(record) ? 2 : n > entries(record) || i >= n ? 5 : 0;
    }

    private int wrongGrow(int record, int m, int n) {
        return m < 0 || m > n ? 1 : !record(record) ? 2 : n > entries(record) ? 5 : 0;
    }

    private int put(List<Integer> row) {
        pad = new ArrayList<>(row);
        return yes(pad.size());
    }

    int include(int record, int i, int n) {
        int wrong = wrongIn(record, i, n);
        return wrong != 0 ? no(wrong) : put(marks(s, record, inclusion(0, i, n)));
    }

    int grow(int record, int m, int n) {
        int wrong = wrongGrow(record, m, n);
        return wrong != 0 ? no(wrong) : put(marks(s, record, growthTrees(m, n)));
    }

    int bundle(int record, int set, int n) {
        if (n < 0 || wrongSet(set)) {
            return no(1);
        }
        if (!record(record)) {
            return no(2);
        }
        if (n > entries(record) || !allBelow(set, n)) {
            return no(5);
        }
        return put(marks(s, record, bundleTrees(set, 0, n)));
    }

    int peaks(int record, int n) {
        int wrong = wrongGrow(record, 0, n);
        return wrong != 0 ? no(wrong) : put(peakMarks(s, record, n));
    }

    int extend(int m, int mark) {
        if (m < 0 || m > 1000000 || !markLike(mark)) {
            return no(1);
        }
        if (pad.size() != Integer.bitCount(m)) {
            return no(5);
        }
        List<int[]> peaks = new ArrayList<>();
        int rest = m;
        for (int x : pad) {
            int width = Integer.highestOneBit(rest);
            peaks.add(new int[] {width, x});
            rest -= width;
        }
        peaks.add(new int[] {1, mark});
        while (peaks.size() > 1 && peaks.get(peaks.size() - 1)[0] == peaks.get(peaks.size() - 2)[0]) {
            int[] last = peaks.remove(peaks.size() - 1);
            int[] ahead = peaks.remove(peaks.size() - 1);
            peaks.add(new int[] {2 * last[0], both(s.m, ahead[1], last[1])});
        }
        List<Integer> row = new ArrayList<>();
        for (int[] peak : peaks) {
            row.add(peak[1]);
        }
        return put(row);
    }

    int checks(int mark, int i, int n, int head) {
        return i < 0 || i >= n || !markLike(mark, head) ? no(1) : yes(whyIn(s.m, mark, i, n, head, pad));
    }

    int growth(int m, int older, int n, int newer) {
        return m < 0 || m > n || !markLike(older, newer) ? no(1) : yes(whyGrow(s.m, m, older, n, newer, pad));
    }

    int bundled(int set, int n, int head) {
        if (n < 0 || wrongSet(set) || !allBelow(set, n) || !markLike(head)) {
            return no(1);
        }
        int own = members(set).size();
        int due = own + bundleTrees(set, 0, n).size();
        if (pad.size() != due) {
            return yes(pad.size() < due ? 1 : 2);
        }
        List<Integer> first = new ArrayList<>(pad.subList(0, own));
        List<Integer> others = new ArrayList<>(pad.subList(own, due));
        return yes(foldBundle(s.m, set, 0, n, first, others) == head ? 0 : 3);
    }

    int fold() {
        if (pad.isEmpty()) {
            return yes(0);
        }
        int folded = pad.get(pad.size() - 1);
        for (int k = pad.size() - 2; k >= 0; k--) {
            folded = both(s.m, pad.get(k), folded);
        }
        return yes(folded);
    }

    int steps(int i, int n) {
        return i < 0 || i >= n ? no(1) : yes(inclusion(0, i, n).size());
    }

    int climbs(int m, int n) {
        return m < 0 || m > n ? no(1) : yes(growthTrees(m, n).size());
    }

    private boolean hasHead(int record, int size, int head) {
        return size <= entries(record) && head(s, record, size) == head;
    }

    private boolean doAgree(int a, int b) {
        boolean agree = false;
        for (int r = 0; r < s.records.size(); r++) {
            agree |= hasHead(r, s.size[a], s.head[a]) && hasHead(r, s.size[b], s.head[b]);
        }
        return agree;
    }

    int agree(int watcher, int other) {
        return watcherThere(watcher) && watcherThere(other) ? yes(doAgree(watcher, other) ? 1 : 0) : no(2);
    }

    int where(int record, int what) {
        if (what < 0 || what > 1) {
            return no(1);
        }
        if (!record(record)) {
            return no(2);
        }
        int many = 0;
        for (String w : s.records.get(record)) {
            many += w.equals(word) ? 1 : 0;
        }
        return what == 1 ? yes(many) : many == 0 ? no(5) : yes(s.records.get(record).indexOf(word));
    }

    private static void allTrees(int from, int n, List<Tree> into) {
        into.add(new Tree(from, n));
        if (n > 1) {
            allTrees(from, p(n), into);
            allTrees(from + p(n), n - p(n), into);
        }
    }

    int tree(int record, int n, int k, int what) {
        if (n < 0 || k < 0 || what < 0 || what > 2) {
            return no(1);
        }
        if (!record(record)) {
            return no(2);
        }
        List<Tree> trees = new ArrayList<>();
        if (n > 0 && n <= entries(record)) {
            allTrees(0, n, trees);
        }
        trees.sort((a, b) -> a.first != b.first ? a.first - b.first : b.many - a.many);
        if (k >= trees.size()) {
            return no(5);
        }
        Tree t = trees.get(k);
        return yes(what == 0 ? t.first : what == 1 ? t.many : marks(s, record, List.of(t)).get(0));
    }

    int proves(int i, int j) {
        if (i < 0 || j < 0) {
            return no(1);
        }
        if (i >= s.frozen.size() || j >= s.frozen.size() || s.frozen.get(i).size > s.frozen.get(j).size) {
            return no(5);
        }
        Head a = s.frozen.get(i);
        Head b = s.frozen.get(j);
        return yes(whyGrow(s.m, a.size, a.mark, b.size, b.mark, marks(s, b.record, growthTrees(a.size, b.size))));
    }

    int longest(int n, int what) {
        if (n < 1 || n > 512 || what < 0 || what > 2) {
            return no(1);
        }
        List<Integer> all = new ArrayList<>();
        int sum = 0;
        int most = 0;
        for (int i = 0; i < n; i++) {
            all.add(inclusion(0, i, n).size());
            sum += all.get(i);
            most = Math.max(most, all.get(i));
        }
        return yes(what == 0 ? most : what == 1 ? all.indexOf(most) : sum);
    }

    int part(int record, int other, int what) {
        if (what < 0 || what > 1) {
            return no(1);
        }
        if (!record(record) || !record(other)) {
            return no(2);
        }
        int n = Math.min(entries(record), entries(other));
        if (head(s, record, n) == head(s, other, n)) {
            return yes(what == 1 ? 0 : entries(record) == entries(other) ? NONE : n);
        }
        return yes(seekPart(record, other, 0, n, 0)[what]);
    }

    private int[] seekPart(int record, int other, int from, int n, int compared) {
        if (n == 1) {
            return new int[] {from, compared};
        }
        List<Tree> firstPart = List.of(new Tree(from, p(n)));
        if (!marks(s, record, firstPart).equals(marks(s, other, firstPart))) {
            return seekPart(record, other, from, p(n), compared + 1);
        }
        return seekPart(record, other, from + p(n), n - p(n), compared + 1);
    }

    int blame(int record, int what) {
        if (what < 0 || what > 2) {
            return no(1);
        }
        if (!record(record)) {
            return no(2);
        }
        TreeSet<Integer> unsound = new TreeSet<>();
        TreeSet<Integer> sound = new TreeSet<>();
        int many = 0;
        for (Head h : s.frozen) {
            if (h.record == record) {
                (sound(s, h) ? sound : unsound).add(h.size);
                many += sound(s, h) ? 0 : 1;
            }
        }
        if (what == 2) {
            return yes(many);
        }
        if (unsound.isEmpty()) {
            return yes(NONE);
        }
        Integer below = sound.lower(unsound.first());
        return yes(what == 0 ? unsound.first() : below == null ? 0 : below);
    }

    int weak(int record, int i, int n, int what) {
        if (what < 0 || what > 1) {
            return no(1);
        }
        int wrong = wrongIn(record, i, n);
        if (wrong != 0) {
            return no(wrong);
        }
        List<Integer> row = marks(s, record, inclusion(0, i, n));
        int own = wordMark(s.m, s.records.get(record).get(i));
        int head = head(s, record, n);
        int many = 0;
        int least = NONE;
        for (int x = s.m - 1; x >= 0; x--) {
            if (x != own && foldIn(s.m, x, i, n, row) == head) {
                many++;
                least = x;
            }
        }
        return what == 0 ? yes(many) : many == 0 ? no(5) : yes(least);
    }

    /** The pair of each STEP, and what it comes to. */
    private List<int[]> stepsOf(int mark, int i, int n, List<Integer> row) {
        List<Tree> trees = inclusion(0, i, n);
        List<int[]> all = new ArrayList<>();
        int sofar = mark;
        for (int k = 0; k < trees.size() && k < row.size(); k++) {
            boolean ahead = trees.get(k).first < i;
            int a = ahead ? row.get(k) : sofar;
            int b = ahead ? sofar : row.get(k);
            sofar = both(s.m, a, b);
            all.add(new int[] {a, b, sofar});
        }
        return all;
    }

    int clash(int record, int i, int n, int mark, int what) {
        if (what < 0 || what > 4 || !markLike(mark)) {
            return no(1);
        }
        int wrong = wrongIn(record, i, n);
        if (wrong != 0) {
            return no(wrong);
        }
        if (whyIn(s.m, mark, i, n, head(s, record, n), pad) != 0) {
            return no(5);
        }
        List<Integer> row = marks(s, record, inclusion(0, i, n));
        int own = wordMark(s.m, s.records.get(record).get(i));
        if (own == mark && row.equals(pad)) {
            return no(5);
        }
        List<int[]> ones = stepsOf(own, i, n, row);
        List<int[]> others = stepsOf(mark, i, n, pad);
        for (int k = 0; k < ones.size(); k++) {
            int[] a = ones.get(k);
            int[] b = others.get(k);
            if ((a[0] != b[0] || a[1] != b[1]) && a[2] == b[2]) {
                return yes(new int[] {k, a[0], a[1], b[0], b[1]}[what]);
            }
        }
        throw new IllegalStateException("two that are unlike and both TAKEN, without a CLASH");
    }

    int forge(int mark, int i, int n, int head, int k) {
        if (i < 0 || i >= n || k < 0 || !markLike(mark, head)) {
            return no(1);
        }
        if (pad.size() != inclusion(0, i, n).size() || k >= pad.size()) {
            return no(5);
        }
        List<Integer> row = new ArrayList<>(pad);
        for (int x = 0; x < s.m; x++) {
            row.set(k, x);
            if (foldIn(s.m, mark, i, n, row) == head) {
                return yes(x);
            }
        }
        return no(5);
    }

    int trace(int mark, int i, int n, int k) {
        if (i < 0 || i >= n || k < 0 || !markLike(mark)) {
            return no(1);
        }
        List<int[]> all = stepsOf(mark, i, n, pad);
        return k > all.size() ? no(5) : yes(k == 0 ? mark : all.get(k - 1)[2]);
    }

    int span(int i, int n, int k, int what) {
        return i < 0 || i >= n || k < 0 || what < 0 || what > 1 ? no(1) : treeOf(inclusion(0, i, n), k, what);
    }

    int rise(int m, int n, int k, int what) {
        return m < 0 || m > n || k < 0 || what < 0 || what > 1 ? no(1) : treeOf(growthTrees(m, n), k, what);
    }

    private int treeOf(List<Tree> trees, int k, int what) {
        return k >= trees.size() ? no(5) : yes(what == 0 ? trees.get(k).first : trees.get(k).many);
    }

    int kept(int i, int n, int r) {
        if (i < 0 || i >= n || r < n) {
            return no(1);
        }
        List<Tree> trees = inclusion(0, i, n);
        trees.retainAll(inclusion(0, i, r));
        return yes(trees.size());
    }

    int sick(int i) {
        if (i < 0) {
            return no(1);
        }
        if (i >= s.frozen.size()) {
            return no(5);
        }
        Head h = s.frozen.get(i);
        List<Integer> now = peakMarks(s, h.record, h.size);
        int bits = 0;
        for (int k = 0; k < now.size(); k++) {
            bits += now.get(k).equals(h.peaks.get(k)) ? 0 : 1 << k;
        }
        return yes(bits);
    }

    int chain(int record, int what) {
        if (what < 0 || what > 2) {
            return no(1);
        }
        if (!record(record)) {
            return no(2);
        }
        TreeSet<Integer> sizes = new TreeSet<>();
        for (Head h : s.frozen) {
            if (h.record == record) {
                sizes.add(h.size);
            }
        }
        Set<String> links = new TreeSet<>();
        int all = 0;
        for (Integer size : sizes) {
            Integer next = sizes.higher(size);
            for (Tree t : next == null ? List.<Tree>of() : growthTrees(size, next)) {
                all++;
                links.add(t.toString());
            }
        }
        return yes(what == 0 ? sizes.size() : what == 1 ? all : links.size());
    }

    int split(int what) {
        if (what < 0 || what > 1) {
            return no(1);
        }
        List<Integer> couples = new ArrayList<>();
        for (int a = 0; a < 4; a++) {
            for (int b = a + 1; b < 4; b++) {
                if (!doAgree(a, b)) {
                    couples.add(10 * a + b);
                }
            }
        }
        return what == 0 ? yes(couples.size()) : couples.isEmpty() ? no(5) : yes(couples.get(0));
    }

    private int say(String begin, List<Integer> row) {
        out = begin + " by";
        for (int x : row) {
            out += " " + x;
        }
        out += ";";
        return yes(out.length());
    }

    int tell(int record, int i, int n) {
        int wrong = wrongIn(record, i, n);
        if (wrong != 0) {
            return no(wrong);
        }
        int own = wordMark(s.m, s.records.get(record).get(i));
        return say("in " + i + " of " + n + " mark " + own + " head " + head(s, record, n),
            marks(s, record, inclusion(0, i, n)));
    }

    int tellGrowth(int record, int m, int n) {
        int wrong = wrongGrow(record, m, n);
        if (wrong != 0) {
            return no(wrong);
        }
        return say("grow " + m + " mark " + head(s, record, m) + " to " + n + " head " + head(s, record, n),
            marks(s, record, growthTrees(m, n)));
    }

    int out(int i) {
        return i < 0 ? no(1) : i >= out.length() ? no(5) : yes(out.charAt(i));
    }

    int trusted(int size, int head) {
        if (size < 0 || !markLike(head)) {
            return no(1);
        }
        int many = 0;
        for (int w = 0; w < 4; w++) {
            many += s.size[w] == size && s.head[w] == head ? 1 : 0;
        }
        return yes(many);
    }

    int saves(int set, int n) {
        if (wrongSet(set) || !allBelow(set, n)) {
            return no(1);
        }
        int all = 0;
        for (int i : members(set)) {
            all += inclusion(0, i, n).size();
        }
        return yes(all - bundleTrees(set, 0, n).size());
    }

    int who(int size, int head) {
        if (size < 0 || !markLike(head)) {
            return no(1);
        }
        int bits = 0;
        for (int r = 0; r < s.records.size(); r++) {
            bits += hasHead(r, size, head) ? 1 << r : 0;
        }
        return yes(bits);
    }
}
