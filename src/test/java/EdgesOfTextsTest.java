import java.util.List;

/** Edges of part 4 of "Terms" (TEXTS, PROOFS, FAULTS) and of promises 1 to 8. */
public final class EdgesOfTextsTest {
    private static final int LEAST = Edge.LEAST;
    private static final int MOST = Edge.MOST;
    private static final int BLANKS = 0x20202020;
    private static final String TAKEN = "in 0 of 1 mark 1 head 1 by;";

    private EdgesOfTextsTest() {
    }

    public static void main(String[] args) {
        newObject();
        status();
        feed();
        load();
        hear();
        heard();
        fault();
        type();
        tokens();
        lines();
        statements();
        faultsThatCannotBe();
        faultsOfOneTooMany();
        faultsInOrder();
        anew();
        Edge.end();
    }

    /** A TEXT with a FAULT: nothing else is changed but the tape, which is empty, and what fault() tells. */
    private static void faulty(String sentence, String text, int kind, int place) {
        Edge.of(sentence + " '" + (text.length() > 60 ? "..." + text.substring(text.length() - 20) : text) + "'",
            () -> faultIs(text, kind, place, ProvenRecord::load));
    }

    /** PROOFS with a FAULT, likewise. M is 101. */
    private static void unheard(String sentence, String text, int kind, int place) {
        Edge.of(sentence + " '" + (text.length() > 60 ? "..." + text.substring(text.length() - 20) : text) + "'",
            () -> faultIs(text, kind, place, ProvenRecord::hear));
    }

    private interface Read {
        int first(ProvenRecord x, int n);
    }

    private static void faultIs(String text, int kind, int place, Read read) {
        List<String> due = Look.butTapeAndFault(Edge.rich());
        ProvenRecord x = Edge.rich();
        x.hear(0);
        x.hear(Due.feed(x, "in 0 of 1 mark 1 head 2 by;in 0 of 1 mark 1 head 1 by;"));
        Due.feed(x, text);
        Due.refused("FAULT", x, read.first(x, text.length()), 9);
        Due.due("fault(0)", x.fault(0), kind);
        Due.due("fault(1)", x.fault(1), place);
        Edge.same("FAULT", Look.butTapeAndFault(x), due);
        Due.due("the tape is empty", x.feed(0, 0, 0, 0, 0), 20);
    }

    private static void otherLetter(String word, int k, String rest, Read read) {
        ProvenRecord x = Edge.fresh();
        String other = word.substring(0, k) + "q" + word.substring(k + 1) + rest;
        Due.refused(other, x, read.first(x, Due.feed(x, other)), 9);
        Due.due(other + ", fault(0)", x.fault(0), 2);
        Due.due(other + ", fault(1)", x.fault(1), 0);
    }

    /** A TEXT without a FAULT. */
    private static void fine(String sentence, String text) {
        Edge.of(sentence, () -> {
            ProvenRecord x = Edge.fresh();
            x.load(Due.feed(x, text));
            Due.due("status()", x.status(), 0);
            Due.due("fault(0)", x.fault(0), 0);
            Due.due("fault(1)", x.fault(1), -1);
            Due.due("the tape is empty", x.feed(0, 0, 0, 0, 0), 20);
        });
    }

    /** PROOFS without a FAULT, of which so many are TAKEN. M is 101. */
    private static void listened(String sentence, int taken, String text) {
        Edge.of(sentence, () -> {
            ProvenRecord x = Edge.five();
            Due.answered("hear", x, x.hear(Due.feed(x, text)), taken);
            Due.due("fault(0)", x.fault(0), 0);
            Due.due("fault(1)", x.fault(1), -1);
            Due.due("the tape is empty", x.feed(0, 0, 0, 0, 0), 20);
        });
    }

    // ---- promise 1

    private static void newObject() {
        Edge.gives("1: RECORD 0 without ENTRIES", Edge::fresh, 0, x -> x.size(0), x -> x.head(0, 0), x -> x.where(0, 1));
        Edge.gives("1: one RECORD", Edge::fresh, 1, x -> x.many(0));
        Edge.gives("1: M 65,521", Edge::fresh, 65521, x -> x.many(1));
        Edge.gives("1: an empty PAD", Edge::fresh, 0, x -> x.many(2), x -> x.fold(), x -> x.cut(0));
        Edge.refused("1: an empty PAD has no MARK", Edge::fresh, 5, x -> x.pad(0), x -> x.cut(1));
        Edge.refused("1: an empty tape", Edge::fresh, 1, x -> x.load(1), x -> x.hear(1));
        Edge.of("1: an empty tape has 20 bytes then", () -> Due.due("feed", Edge.fresh().feed(0, 0, 0, 0, 0), 20));
        Edge.gives("1: no word typed", Edge::fresh, 1, x -> x.mark());
        Edge.gives("1: nothing FROZEN", Edge::fresh, 0, x -> x.many(3), x -> x.chain(0, 0), x -> x.blame(0, 2));
        Edge.refused("1: nothing FROZEN", Edge::fresh, 5, x -> x.frozen(0, 0), x -> x.sick(0), x -> x.proves(0, 0));
        Edge.of("1: STATUS 0", () -> Due.due("status()", Edge.fresh().status(), 0));
        Edge.gives("1: no ACTS, none ALARMED", Edge::fresh, 0, x -> x.many(4), x -> x.many(5));
        Edge.refused("1: nothing heard, nothing told", Edge::fresh, 5, x -> x.heard(0), x -> x.out(0));
    }

    // ---- promise 2

    private static void status() {
        Edge.of("2: STATUS of the latest call: 0 behind another one, another one behind 0", () -> {
            ProvenRecord x = Edge.fresh();
            x.size(1);
            Due.due("2", x.status(), 2);
            x.size(0);
            Due.due("0", x.status(), 0);
            x.heard(0);
            Due.due("5", x.status(), 5);
            x.heard(-1);
            Due.due("1", x.status(), 1);
        });
    }

    // ---- promise 3

    private static void feed() {
        Edge.of("3: how many it has: 20 more each time, up to 900; NONE if there would be more", () -> {
            ProvenRecord x = Edge.fresh();
            for (int k = 1; k <= 45; k++) {
                Due.due("feed " + k, x.feed(0, 0, 0, 0, 0), 20 * k);
            }
            Due.due("feed 46", x.feed(0, 0, 0, 0, 0), -1);
            Due.due("feed 47", x.feed(0, 0, 0, 0, 0), -1);
            Due.due("status()", x.status(), 0);
        });
        Edge.of("3: a feed() that is refused leaves the tape", () -> {
            ProvenRecord x = Edge.fresh();
            Due.feed(x, " ".repeat(894) + "add z;");
            Due.due("refused", x.feed(0, 0, 0, 0, 0), -1);
            Due.answered("load", x, x.load(900), 1);
            Due.answered("its last byte is there", x, x.entry(0, 0, 2), 26);
            Due.due("room again", x.feed(0, 0, 0, 0, 0), 20);
        });
        Edge.of("3: twenty bytes, the highest of each int first", () -> {
            ProvenRecord x = Edge.fresh();
            x.feed(0x61646420, 0x61626364, 0x65666768, 0x3b616464, 0x20696a3b);
            Due.answered("add abcdefgh;add ij;", x, x.load(20), 1);
            for (int k = 0; k < 8; k++) {
                Due.answered("letter " + k, x, x.entry(0, 0, 2 + k), 1 + k);
            }
            Due.answered("i", x, x.entry(0, 1, 2), 9);
            Due.answered("j", x, x.entry(0, 1, 3), 10);
        });
        Edge.of("3: bytes of 128 and more, in each place of an int", () -> {
            for (int place = 0; place < 4; place++) {
                ProvenRecord x = Edge.fresh();
                int bits = 0xe1 ^ 0x20;
                x.feed(BLANKS, BLANKS ^ bits << 8 * (3 - place), BLANKS, BLANKS, BLANKS);
                Due.refused("load", x, x.load(20), 9);
                Due.due("no TOKEN begins so", x.fault(0), 1);
                Due.due("at it", x.fault(1), 4 + place);
            }
        });
        Edge.of("3: behind those on the tape", () -> {
            ProvenRecord x = Edge.fresh();
            Due.feed(x, "add a;add b;add c;ad");
            Due.feed(x, "d d;");
            Due.answered("load", x, x.load(24), 1);
            Due.answered("ENTRIES", x, x.size(0), 4);
        });
    }

    // ---- promise 4

    private static void load() {
        Edge.refused("4: n below 0", Edge::rich, 1, x -> x.load(-1), x -> x.load(LEAST));
        Edge.refused("4: n above what the tape has", Edge::rich, 1, x -> x.load(21), x -> x.load(900), x -> x.load(MOST));
        Edge.refused("4: n above what a full tape has", Edge::full, 1, x -> x.load(901), x -> x.load(MOST));
        Edge.of("4: n being what the tape has", () -> {
            ProvenRecord x = Edge.rich();
            Due.answered("RECORDS", x, x.load(20), 1);
            Due.answered("ENTRIES", x, x.size(0), 2);
        });
        Edge.of("4: the first n bytes: those behind are gone", () -> {
            ProvenRecord x = Edge.rich();
            Due.answered("add q;", x, x.load(6), 1);
            Due.answered("ENTRIES", x, x.size(0), 1);
            Due.refused("the tape is empty then", x, x.load(1), 1);
            Due.due("the tape is empty then", x.feed(0, 0, 0, 0, 0), 20);
        });
        Edge.of("4: the first n bytes: one less than a LINE", () -> {
            ProvenRecord x = Edge.rich();
            Due.refused("add q", x, x.load(5), 9);
            Due.due("the end", x.fault(0), 2);
            Due.due("the text's length", x.fault(1), 5);
        });
        Edge.of("4: no bytes: an empty TEXT, and the tape is empty", () -> {
            ProvenRecord x = Edge.rich();
            Due.answered("load", x, x.load(0), 1);
            Due.answered("ENTRIES", x, x.size(0), 0);
            Due.answered("M", x, x.many(1), 65521);
            Due.due("fault(0)", x.fault(0), 0);
            Due.due("the tape", x.feed(0, 0, 0, 0, 0), 20);
        });
        Edge.of("4: how many RECORDS: 1, and the most, 4", () -> {
            ProvenRecord x = Edge.fresh();
            Due.answered("1", x, x.load(Due.feed(x, "add;")), 1);
            Due.answered("4", x, x.load(Due.feed(x, "fork 0;fork 0;fork 0;")), 4);
        });
        fine("4: a TEXT of 900 bytes: LINES to the last one", "freeze;".repeat(16) + "to 0;".repeat(157) + "   ");
        Edge.of("4: a TEXT of 900 bytes: its last byte is of a LINE", () -> {
            ProvenRecord x = Edge.fresh();
            Due.answered("load", x, x.load(Due.feed(x, " ".repeat(890) + "add  zyxw;")), 1);
            Due.answered("letters", x, x.entry(0, 0, 0), 4);
        });
        Edge.of("4: a TEXT of 900 bytes without its last one", () -> {
            ProvenRecord x = Edge.fresh();
            Due.feed(x, " ".repeat(890) + "add  zyxw;");
            Due.refused("load", x, x.load(899), 9);
            Due.due("2", x.fault(0), 2);
            Due.due("the text's length", x.fault(1), 899);
        });
    }

    // ---- promise 5

    private static void hear() {
        Edge.refused("5: n below 0", Edge::rich, 1, x -> x.hear(-1), x -> x.hear(LEAST));
        Edge.refused("5: n above what the tape has", Edge::rich, 1, x -> x.hear(21), x -> x.hear(MOST));
        Edge.refused("5: n above what a full tape has", Edge::full, 1, x -> x.hear(901));
        Edge.of("5: no bytes: none is TAKEN, nothing is heard, and the tape is empty", () -> {
            ProvenRecord x = Edge.rich();
            Due.answered("hear", x, x.hear(0), 0);
            Due.refused("heard", x, x.heard(0), 5);
            Due.due("the tape", x.feed(0, 0, 0, 0, 0), 20);
        });
        Edge.of("5: the first n bytes of the tape, which is empty then", () -> {
            ProvenRecord x = Edge.five();
            Due.feed(x, TAKEN + TAKEN);
            Due.answered("the first one", x, x.hear(27), 1);
            Due.refused("no second one", x, x.heard(1), 5);
            Due.due("the tape", x.feed(0, 0, 0, 0, 0), 20);
        });
        Edge.of("5: all bytes of a full tape", () -> {
            ProvenRecord x = Edge.five();
            Due.answered("hear", x, x.hear(Due.feed(x, " ".repeat(873) + TAKEN)), 1);
            Due.refused("but the last", x, x.hear(Due.feed(x, " ".repeat(873) + TAKEN) - 1), 9);
            Due.due("the text's length", x.fault(1), 899);
        });
        Edge.of("5: how many are TAKEN: none of 20, one, all of 20", () -> {
            String not = "in 0 of 1 mark 1 head 2 by;";
            ProvenRecord x = Edge.five();
            Due.answered("none", x, x.hear(Due.feed(x, not.repeat(20))), 0);
            Due.answered("the last", x, x.hear(Due.feed(x, not.repeat(19) + TAKEN)), 1);
            Due.answered("all", x, x.hear(Due.feed(x, TAKEN.repeat(20))), 20);
        });
        Edge.of("5: told to the VERIFIER: the PAD is another thing, and stays", () -> {
            ProvenRecord x = Edge.rich();
            x.hear(0);
            x.hear(Due.feed(x, "in 2 of 5 mark 14 head 89 by 15 39 16;"));
            Due.answered("TAKEN", x, x.heard(0), 0);
            Due.pad("the PAD", x, 7, 8, 9);
        });
    }

    // ---- promise 6

    private static void heard() {
        Edge.gives("6: the first", Edge::rich, 3, x -> x.heard(0));
        Edge.gives("6: the last", Edge::rich, 0, x -> x.heard(1));
        Edge.refused("6: below 0", Edge::rich, 1, x -> x.heard(-1), x -> x.heard(LEAST));
        Edge.refused("6: one behind the last", Edge::rich, 5, x -> x.heard(2), x -> x.heard(19), x -> x.heard(20),
            x -> x.heard(MOST));
        Edge.of("6: of 20, the last", () -> {
            ProvenRecord x = Edge.five();
            x.hear(Due.feed(x, TAKEN.repeat(19) + "in 0 of 1 mark 1 head 2 by;"));
            Due.answered("18", x, x.heard(18), 0);
            Due.answered("19", x, x.heard(19), 3);
            Due.refused("20", x, x.heard(20), 5);
        });
        Edge.of("6: of the latest hear() with STATUS 0: not of one with 1, nor with 9", () -> {
            ProvenRecord x = Edge.rich();
            x.hear(21);
            Due.answered("behind 1", x, x.heard(0), 3);
            x.hear(20);
            Due.due("9", x.status(), 9);
            Due.answered("behind 9", x, x.heard(0), 3);
            Due.answered("behind 9", x, x.heard(1), 0);
            x.hear(Due.feed(x, TAKEN));
            Due.answered("behind 0", x, x.heard(0), 0);
            Due.refused("behind 0", x, x.heard(1), 5);
        });
        Edge.of("6: a FAULT behind a STATEMENT: that one is not heard, either", () -> {
            ProvenRecord x = Edge.rich();
            x.hear(0);
            Due.refused("hear", x, x.hear(Due.feed(x, TAKEN + "!")), 9);
            Due.refused("heard", x, x.heard(0), 5);
        });
        Edge.of("6: WHY 0 to 4", () -> {
            ProvenRecord x = Edge.five();
            x.hear(Due.feed(x, "grow 3 mark 93 to 5 head 89 by 14 15 39 16;grow 3 mark 93 to 5 head 89 by 14 15 39;"
                + "grow 3 mark 93 to 5 head 89 by 14 15 39 16 0;grow 3 mark 92 to 5 head 89 by 14 15 39 16;"
                + "grow 3 mark 93 to 5 head 88 by 14 15 39 16;"));
            for (int k = 0; k < 5; k++) {
                Due.answered("WHY", x, x.heard(k), k);
            }
        });
    }

    // ---- promise 7

    private static void fault() {
        Edge.of("7: NONE ahead of any", () -> {
            ProvenRecord x = Edge.fresh();
            Due.due("fault(0)", x.fault(0), -1);
            Due.due("fault(1)", x.fault(1), -1);
            x.load(1);
            x.hear(-1);
            Due.due("STATUS 1: still ahead of any", x.fault(0), -1);
        });
        Edge.of("7: 0 without one; its place NONE without", () -> {
            ProvenRecord x = Edge.fresh();
            x.load(0);
            Due.due("load, fault(0)", x.fault(0), 0);
            Due.due("load, fault(1)", x.fault(1), -1);
            ProvenRecord y = Edge.fresh();
            y.hear(0);
            Due.due("hear, fault(0)", y.fault(0), 0);
            Due.due("hear, fault(1)", y.fault(1), -1);
        });
        Edge.of("7: NONE for others", () -> {
            ProvenRecord x = Edge.fresh();
            x.load(Due.feed(x, " !"));
            Due.due("fault(0)", x.fault(0), 1);
            Due.due("fault(1)", x.fault(1), 1);
            for (int what : new int[] {-1, 2, 3, LEAST, MOST}) {
                Due.due("fault(" + what + ")", x.fault(what), -1);
            }
        });
        Edge.of("7: of the latest with STATUS 0 or 9: one with STATUS 1 leaves it", () -> {
            ProvenRecord x = Edge.fresh();
            x.load(Due.feed(x, " !"));
            x.load(-1);
            x.hear(1);
            Due.due("fault(0)", x.fault(0), 1);
            Due.due("fault(1)", x.fault(1), 1);
            x.hear(0);
            Due.due("hear() without one", x.fault(0), 0);
            Due.due("hear() without one", x.fault(1), -1);
            x.hear(Due.feed(x, "in ;"));
            Due.due("hear() with one", x.fault(0), 2);
            Due.due("hear() with one", x.fault(1), 3);
            x.load(1);
            Due.due("load() with STATUS 1", x.fault(1), 3);
            x.load(0);
            Due.due("load() without one", x.fault(0), 0);
        });
        Edge.of("7: its place: the first byte, the 900th, behind that", () -> {
            ProvenRecord x = Edge.fresh();
            x.load(Due.feed(x, "!"));
            Due.due("the first", x.fault(1), 0);
            x.load(Due.feed(x, " ".repeat(899) + "!"));
            Due.due("the 900th", x.fault(1), 899);
            x.load(Due.feed(x, " ".repeat(897) + "add"));
            Due.due("the end", x.fault(1), 900);
        });
    }

    // ---- promise 8

    private static void type() {
        int six = 1 | 2 << 5 | 3 << 10 | 4 << 15 | 5 << 20 | 6 << 25;
        Edge.of("8: no letters: none at once", () -> {
            ProvenRecord x = Edge.rich();
            Due.due("type(0, 0)", x.type(0, 0), 0);
            Due.answered("MARK", x, x.mark(), 1);
            Due.due("type(0, ..)", x.type(0, six), 0);
            Due.due("type(bits 30 and 31 alone, ..)", x.type(3 << 30, six), 0);
        });
        Edge.of("8: letters 1 to 26", () -> {
            ProvenRecord x = Edge.fresh();
            for (int letter = 1; letter <= 26; letter++) {
                Due.due("type", x.type(letter, 0), 1);
                Due.answered("MARK", x, x.mark(), 11 + letter);
            }
        });
        Edge.of("8: a letter above 26: NONE, and the word stays", () -> {
            for (int letter = 27; letter <= 31; letter++) {
                for (int k = 0; k < 8; k++) {
                    ProvenRecord x = Edge.rich();
                    int ahead = k < 6 ? (1 << 5 * k) - 1 : (1 << 30) - 1;
                    int a = 0x02108421 & ahead | (k < 6 ? letter << 5 * k : 0);
                    int b = k < 6 ? 0 : k == 6 ? letter : 1 | letter << 5;
                    Due.due("letter " + letter + " at " + k, x.type(a, b), -1);
                    Due.answered("ab is typed still", x, x.mark(), 88);
                }
            }
        });
        Edge.leaves("8: a word that is refused leaves all", Edge::rich, x -> x.type(27, 0), x -> x.type(-1, -1));
        Edge.of("8: at most six of each int: the two highest bits are none", () -> {
            ProvenRecord x = Edge.fresh();
            Due.due("six", x.type(six | 3 << 30, 0), 6);
            Due.due("six, and one", x.type(six | 3 << 30, 26), 7);
            x.add(0);
            Due.answered("the sixth", x, x.entry(0, 0, 7), 6);
            Due.answered("the seventh, of the second int", x, x.entry(0, 0, 8), 26);
        });
        Edge.of("8: till one is 0: what is behind does not count, above 26 or not", () -> {
            ProvenRecord x = Edge.fresh();
            Due.due("one, then 0", x.type(1 | 31 << 10, 31), 1);
            Due.due("five, then 0", x.type(six & (1 << 25) - 1, 31), 5);
            Due.due("six, then 0", x.type(six, 31 << 5), 6);
            Due.due("seven, then 0", x.type(six, 1 | 31 << 10), 7);
        });
        Edge.of("8: or there are 8: what is behind does not count, above 26 or not", () -> {
            ProvenRecord x = Edge.fresh();
            Due.due("eight", x.type(six, 7 | 8 << 5), 8);
            Due.due("eight, then 31", x.type(six, 7 | 8 << 5 | 31 << 10), 8);
            Due.due("eight, then all bits", x.type(six, 7 | 8 << 5 | -1 << 10), 8);
            x.add(0);
            Due.answered("letters", x, x.entry(0, 0, 0), 8);
            Due.answered("the last", x, x.entry(0, 0, 9), 8);
        });
        Edge.of("8: the word typed is another one: a shorter one behind a longer one", () -> {
            ProvenRecord x = Edge.fresh();
            x.type(six, 7 | 8 << 5);
            Due.due("one", x.type(26, 0), 1);
            x.add(0);
            Due.answered("letters", x, x.entry(0, 0, 0), 1);
            Due.answered("z", x, x.entry(0, 0, 2), 26);
        });
    }

    // ---- part 4: TOKENS

    private static void tokens() {
        Edge.of("blanks are 10 and 32; no TOKEN begins with another byte than letters, digits, ;", () -> {
            for (int b = 0; b < 256; b++) {
                ProvenRecord x = Edge.fresh();
                x.feed(b << 24, 0, 0, 0, 0);
                x.load(1);
                boolean token = b >= 'a' && b <= 'z' || b >= '0' && b <= '9' || b == ';';
                Due.due("status() of byte " + b, x.status(), b == 10 || b == 32 ? 0 : 9);
                Due.due("fault(0) of byte " + b, x.fault(0), b == 10 || b == 32 ? 0 : token ? 2 : 1);
                Due.due("fault(1) of byte " + b, x.fault(1), b == 10 || b == 32 ? -1 : 0);
            }
        });
        Edge.of("a TOKEN ends at each byte that is none of it", () -> {
            for (int b = 0; b < 256; b++) {
                ProvenRecord x = Edge.fresh();
                x.feed('a' << 24 | 'd' << 16 | 'd' << 8 | ' ', 'a' << 24 | b << 16 | ';' << 8, 0, 0, 0);
                x.load(7);
                boolean letter = b >= 'a' && b <= 'z';
                boolean fine = letter || b == 10 || b == 32;
                boolean token = b >= '0' && b <= '9' || b == ';';
                int kind = fine ? 0 : token ? 2 : 1;
                Due.due("fault(0) of byte " + b, x.fault(0), kind);
                Due.due("fault(1) of byte " + b, x.fault(1), fine ? -1 : b == ';' ? 6 : 5);
                Due.due("letters with byte " + b, x.entry(0, 0, 0), fine ? letter ? 2 : 1 : -1);
            }
        });
        fine("between them blanks: none", "mod65521;add a;add;fork1;show3 1;to0;freeze;");
        fine("between them blanks: many", "\n\n  mod \n 101\n;\n add\n\na  ;  freeze \n ; ");
        fine("as long as they go: a WORD at a NUMBER is two TOKENS", "add a;to0;fork1;show0 1;");
        fine("NUMBERS of 1 to 5 digits", "to 0;to 00;to 000;to 0000;to 00000;");
        faulty("a NUMBER of 6 digits: at its first", "to 000000;", 1, 3);
        faulty("a NUMBER of 7 digits and more: at its first", "mod 000000101;", 1, 4);
        unheard("a NUMBER of 6 digits: at its first", "in 0 of 000001 mark 1 head 1 by;", 1, 8);
        unheard("a NUMBER of 6 digits behind by: at its first", "in 0 of 2 mark 1 head 1 by 1 000001;", 1, 29);
        listened("NUMBERS of 5 digits", 1, "in 00000 of 00001 mark 00001 head 00001 by ;");
        listened("the greatest NUMBERS", 0, "in 99998 of 99999 mark 1 head 1 by;grow 99999 mark 1 to 99999 head 2 by;");
        faulty("the end: the text's length, when blanks are there", "add a  \n", 2, 8);
        faulty("the end, when nothing is", "mod", 2, 3);
        unheard("the end: the text's length", "in 0 of 1 mark 1 head 1 by ", 2, 27);
    }

    // ---- part 4: LINES

    private static void lines() {
        fine("an empty TEXT of blanks", " \n ");
        fine("an empty TEXT of blanks, the most", " \n".repeat(450));
        fine("[mod NUMBER ;] once", "mod 101;");
        faulty("[mod NUMBER ;] twice", "mod 101;mod 101;", 2, 8);
        faulty("[mod NUMBER ;] behind a LINE", "to 0;mod 101;", 2, 5);
        fine("add [WORD] once or not", "add;add a;");
        faulty("add [WORD] twice", "add a b;", 2, 6);
        faulty("add of a NUMBER", "add 1;", 2, 4);
        fine("a WORD like those of LINES", "add mod;add add;add to;add fork;add freeze;add show;");
        faulty("to without NUMBER", "to ;", 2, 3);
        faulty("to of two", "to 0 0;", 2, 5);
        faulty("to of a WORD", "to a;", 2, 3);
        faulty("fork without NUMBER", "fork;", 2, 4);
        faulty("fork of two", "fork 0 0;", 2, 7);
        faulty("freeze of one", "freeze 0;", 2, 7);
        faulty("freeze without ;", "freeze freeze;", 2, 7);
        faulty("show of none", "show;", 2, 4);
        faulty("show of one", "show 0;", 2, 6);
        faulty("show of three", "show 0 0 0;", 2, 9);
        faulty("a ; alone", ";", 2, 0);
        faulty("a ; too many", "add;;", 2, 4);
        faulty("a NUMBER first", "1;", 2, 0);
        faulty("a WORD that begins no LINE: one letter less", "ad;", 2, 0);
        faulty("a WORD that begins no LINE: one letter more", "addd;", 2, 0);
        faulty("a WORD that begins no LINE: of PROOFS", "in 0 of 1 mark 1 head 1 by;", 2, 0);
        faulty("mod without NUMBER", "mod;", 2, 3);
        Edge.of("a WORD that begins no LINE, no STATEMENT: each letter of each is another one", () -> {
            for (String word : new String[] {"mod", "add", "to", "fork", "freeze", "show"}) {
                for (int k = 0; k < word.length(); k++) {
                    otherLetter(word, k, " 0;", ProvenRecord::load);
                }
            }
            for (String word : new String[] {"in", "grow"}) {
                for (int k = 0; k < word.length(); k++) {
                    otherLetter(word, k, " 0;", ProvenRecord::hear);
                }
            }
        });
        faulty("mod without ;", "mod 101 add;", 2, 8);
        Edge.of("all of the RECORD AT HAND, 0 at first, another one by to, a new one by fork", () -> {
            ProvenRecord x = Edge.fresh();
            x.load(Due.feed(x, "add a;fork 1;add b;to 0;add c;freeze;show 0 2;to 1;freeze;show 1 2;fork 0;add d;freeze;"));
            Due.answered("0", x, x.entry(0, 1, 2), 3);
            Due.answered("1", x, x.entry(1, 1, 2), 2);
            Due.answered("2", x, x.entry(2, 0, 2), 4);
            for (int k = 0; k < 3; k++) {
                Due.answered("freeze", x, x.frozen(k, 0), k);
            }
            Due.answered("show 0", x, x.watcher(0, 1), x.head(0, 2));
            Due.answered("show 1", x, x.watcher(1, 1), x.head(1, 2));
        });
        Edge.of("fork of none, of all", () -> {
            ProvenRecord x = Edge.fresh();
            Due.answered("load", x, x.load(Due.feed(x, "add a;add b;fork 0;to 0;fork 2;")), 3);
            Due.answered("none", x, x.size(1), 0);
            Due.answered("all", x, x.size(2), 2);
        });
        Edge.of("ACTS are those of its LINES: add, fork, freeze, show; to and mod are none", () -> {
            ProvenRecord x = Edge.rich();
            x.hear(0);
            x.load(Due.feed(x, "mod 101;add;to 0;fork 1;freeze;show 0 0;to 0;show 0 1;"));
            Due.answered("ACTS", x, x.many(4), 5);
            Due.answered("TICK", x, x.frozen(0, 3), 2);
        });
    }

    // ---- part 4: STATEMENTS

    private static void statements() {
        listened("no STATEMENT", 0, " \n ");
        listened("no STATEMENT, blanks, the most", 0, " \n".repeat(450));
        listened("by {NUMBER}: none", 1, "in 0 of 1 mark 7 head 7 by;");
        listened("by {NUMBER}: one", 1, "in 0 of 2 mark 12 head 39 by 13;");
        listened("by {NUMBER}: 64, the most", 0, "in 0 of 1 mark 1 head 1 by" + " 7".repeat(64) + ";");
        unheard("by {NUMBER}: a 65th, at it", "in 0 of 1 mark 1 head 1 by" + " 7".repeat(64) + "  8;", 6, 156);
        unheard("by {NUMBER}: a 65th of GROWTH, at it", "grow 0 mark 0 to 1 head 1 by" + " 7".repeat(65) + ";", 6, 157);
        listened("at most 20", 20, TAKEN.repeat(20));
        unheard("a 21st: at its first WORD", TAKEN.repeat(20) + " " + TAKEN, 6, 541);
        unheard("a 21st of GROWTH: at its first WORD", TAKEN.repeat(20) + "grow 0 mark 0 to 1 head 1 by;", 6, 540);
        listened("n just above i", 1, "in 4 of 5 mark 16 head 89 by 44;");
        listened("n being m", 1, "grow 5 mark 89 to 5 head 89 by;");
        listened("GROWTH from none", 2, "grow 0 mark 0 to 0 head 0 by;grow 0 mark 0 to 5 head 100 by;");
        listened("MARKS 0 and M less 1", 3, "in 0 of 1 mark 0 head 0 by;in 0 of 1 mark 100 head 100 by;"
            + "in 0 of 2 mark 100 head 7 by 100;");
        unheard("in without i", "in of 1 mark 1 head 1 by;", 2, 3);
        unheard("in without of", "in 0 1 mark 1 head 1 by;", 2, 5);
        unheard("in without n", "in 0 of mark 1 head 1 by;", 2, 8);
        unheard("in without mark", "in 0 of 1 head 1 by;", 2, 10);
        unheard("in without a MARK", "in 0 of 1 mark head 1 by;", 2, 15);
        unheard("in without head", "in 0 of 1 mark 1 by;", 2, 17);
        unheard("in without a HEAD", "in 0 of 1 mark 1 head by;", 2, 22);
        unheard("in without by", "in 0 of 1 mark 1 head 1;", 2, 23);
        unheard("in without ;", "in 0 of 1 mark 1 head 1 by in", 2, 27);
        unheard("grow without m", "grow mark 1 to 1 head 1 by;", 2, 5);
        unheard("grow without mark", "grow 0 to 1 head 1 by;", 2, 7);
        unheard("grow without a MARK", "grow 0 mark to 1 head 1 by;", 2, 12);
        unheard("grow without to", "grow 0 mark 0 head 1 by;", 2, 14);
        unheard("grow without n", "grow 0 mark 0 to head 1 by;", 2, 17);
        unheard("grow without head", "grow 0 mark 0 to 1 by;", 2, 19);
        unheard("grow without a HEAD", "grow 0 mark 0 to 1 head by;", 2, 24);
        unheard("grow without by", "grow 0 mark 0 to 1 head 1;", 2, 25);
        unheard("grow without ;", "grow 0 mark 0 to 1 head 1 by 1", 2, 30);
        unheard("a WORD that begins no STATEMENT", "inn 0 of 1 mark 1 head 1 by;", 2, 0);
        unheard("a WORD that begins no STATEMENT: of a TEXT", "add;", 2, 0);
        unheard("mod is of a TEXT", "mod 101;", 2, 0);
        unheard("another WORD than of", "in 0 uf 1 mark 1 head 1 by;", 2, 5);
        unheard("another WORD than mark", "in 0 of 1 bark 1 head 1 by;", 2, 10);
        unheard("another WORD than head", "in 0 of 1 mark 1 heat 1 by;", 2, 17);
        unheard("another WORD than by", "in 0 of 1 mark 1 head 1 my;", 2, 24);
        unheard("another WORD than mark, of grow", "grow 0 mart 0 to 1 head 1 by;", 2, 7);
        unheard("another WORD than to", "grow 0 mark 0 do 1 head 1 by;", 2, 14);
        unheard("another WORD than head, of grow", "grow 0 mark 0 to 1 dead 1 by;", 2, 19);
        unheard("another WORD than by, of grow", "grow 0 mark 0 to 1 head 1 be;", 2, 26);
        unheard("a ; too many", TAKEN + ";", 2, 27);
    }

    // ---- part 4: FAULTS

    private static void faultsThatCannotBe() {
        fine("M: the least", "mod 101;");
        fine("M: the greatest", "mod 65521;");
        faulty("M: below", "mod 100;", 3, 4);
        faulty("M: above", "mod 65522;", 3, 4);
        faulty("M: none", "mod 00000;", 3, 4);
        fine("of a RECORD: the last there is", "fork 0;fork 0;to 2;");
        faulty("of a RECORD: one behind it", "fork 0;fork 0;to 3;", 3, 17);
        faulty("of a RECORD: 1 where 0 is alone", "to 1;", 3, 3);
        faulty("of a RECORD: the 5th", "fork 0;fork 0;fork 0;to 4;", 3, 24);
        fine("a WATCHER: the last", "show 3 0;");
        faulty("a WATCHER: 4", "show 4 0;", 3, 5);
        fine("how many ENTRIES: all, of fork", "add;fork 1;");
        faulty("how many ENTRIES: one more, of fork", "add;fork 2;", 3, 9);
        faulty("how many ENTRIES: those of the RECORD AT HAND", "add;fork 0;fork 1;", 3, 16);
        fine("how many ENTRIES: all, of show", "add;show 0 1;");
        faulty("how many ENTRIES: one more, of show", "add;show 0 2;", 3, 11);
        faulty("how many ENTRIES: none there", "show 0 1;", 3, 7);
        unheard("n not above i: i", "in 5 of 5 mark 1 head 1 by;", 3, 8);
        unheard("n not above i: below", "in 5 of 4 mark 1 head 1 by;", 3, 8);
        unheard("n not above i: both 0", "in 0 of 0 mark 1 head 1 by;", 3, 8);
        unheard("n not above i: the greatest i has none", "in 99999 of 99999 mark 1 head 1 by;", 3, 12);
        unheard("n below m", "grow 5 mark 1 to 4 head 1 by;", 3, 17);
        unheard("n below m: 0", "grow 1 mark 1 to 0 head 1 by;", 3, 17);
        unheard("a MARK, M: of in", "in 0 of 1 mark 101 head 1 by;", 3, 15);
        unheard("a MARK, M: a HEAD of in", "in 0 of 1 mark 1 head 101 by;", 3, 22);
        unheard("a MARK, M: behind by, the first", "in 0 of 1 mark 1 head 1 by 101;", 3, 27);
        unheard("a MARK, M: behind by, another one", "in 0 of 1 mark 1 head 1 by 0 100 101;", 3, 33);
        unheard("a MARK, M: of grow", "grow 0 mark 101 to 1 head 1 by;", 3, 12);
        unheard("a MARK, M: a HEAD of grow", "grow 0 mark 0 to 1 head 101 by;", 3, 24);
        unheard("a MARK, M: behind by of grow", "grow 0 mark 0 to 1 head 1 by 101;", 3, 29);
        unheard("a MARK, more than M", "in 0 of 1 mark 99999 head 1 by;", 3, 15);
        Edge.of("a MARK by M as it is: 65,520 by the M at first", () -> {
            ProvenRecord x = Edge.fresh();
            Due.answered("65520", x, x.hear(Due.feed(x, "in 0 of 1 mark 65520 head 65520 by;")), 1);
            Due.refused("65521", x, x.hear(Due.feed(x, "in 0 of 1 mark 65521 head 65520 by;")), 9);
            Due.due("3", x.fault(0), 3);
        });
        fine("a WORD of 8 letters", "add abcdefgh;");
        faulty("a WORD of 9 letters: at it", "add  abcdefghi;", 4, 5);
        faulty("a WORD of many more letters: at it", "add " + "z".repeat(300) + ";", 4, 4);
    }

    private static void faultsOfOneTooMany() {
        fine("ENTRIES: 48", "add;".repeat(48));
        faulty("ENTRIES: a 49th, at the first WORD of the LINE", "add;".repeat(48) + "  add a;", 6, 194);
        fine("ENTRIES: 48 each of two RECORDS", "add;".repeat(48) + "fork 47;add;");
        faulty("ENTRIES: a 49th of a RECORD that was forked", "add;".repeat(48) + "fork 48;add;", 6, 200);
        fine("RECORDS: 4", "fork 0;fork 0;fork 0;");
        faulty("RECORDS: a 5th", "fork 0;fork 0;fork 0; fork 0;", 6, 22);
        fine("FROZEN: 16", "freeze;".repeat(16));
        faulty("FROZEN: a 17th", "freeze;".repeat(16) + "freeze;", 6, 112);
        faulty("FROZEN: a 17th, of another RECORD", "freeze;".repeat(16) + "fork 0;freeze;", 6, 119);
    }

    private static void faultsInOrder() {
        faulty("the first along the text: 2 ahead of 1", "add a b;!", 2, 6);
        faulty("the first along the text: 3 ahead of 1", "to 1 !", 3, 3);
        faulty("the first along the text: 4 ahead of 2", "add abcdefghi 1;", 4, 4);
        faulty("the first along the text: a WATCHER ahead of a size", "show 4 1;", 3, 5);
        faulty("the first along the text: 6 ahead of 1 in its LINE", "add;".repeat(48) + "add !", 6, 192);
        faulty("the first along the text: 6 ahead of 2 in its LINE", "add;".repeat(48) + "add", 6, 192);
        faulty("the first along the text: 6 ahead of 3 in its LINE", "fork 0;fork 0;fork 0;fork 1;", 6, 21);
        faulty("the first along the text: 6 ahead of 4 in its LINE", "add;".repeat(48) + "add abcdefghi;", 6, 192);
        faulty("the first along the text: 6 ahead of 2, freeze", "freeze;".repeat(16) + "freeze 1;", 6, 112);
        unheard("the first along the text: 6 ahead of 3 in its STATEMENT", TAKEN.repeat(20) + "in 1 of 1 mark", 6, 540);
        unheard("the first along the text: 3 of n ahead of 3 of a MARK", "in 1 of 1 mark 101 head 1 by;", 3, 8);
        unheard("the first along the text: 3 of a MARK ahead of 3 of n", "grow 1 mark 101 to 0 head 1 by;", 3, 12);
        faulty("of one TOKEN the least kind: 2, not 4, first", "abcdefghi;", 2, 0);
        faulty("of one TOKEN the least kind: 2, not 4, for ;", "add a abcdefghi;", 2, 6);
        faulty("of one TOKEN the least kind: 2, not 4, for a NUMBER", "to abcdefghi;", 2, 3);
        faulty("of one TOKEN the least kind: 1, not 3", "to 100000;", 1, 3);
        faulty("of one TOKEN the least kind: 1, not 2", "add 100000;", 1, 4);
        faulty("of one TOKEN the least kind: 2, not 3", "add 99999;", 2, 4);
        unheard("of one TOKEN the least kind: 3, not 6", "in 0 of 1 mark 1 head 1 by" + " 7".repeat(64) + " 101;", 3, 155);
        unheard("of one TOKEN the least kind: 1, not 6", "in 0 of 1 mark 1 head 1 by" + " 7".repeat(64) + " 100000;", 1, 155);
        unheard("of one TOKEN the least kind: 2, not 6", TAKEN.repeat(20) + "inn;", 2, 540);
        unheard("of one TOKEN the least kind: 1, not 6", TAKEN.repeat(20) + "!", 1, 540);
    }

    private static void anew() {
        Edge.of("load() makes all anew", () -> {
            ProvenRecord x = Edge.rich();
            x.hear(0);
            Due.answered("load", x, x.load(0), 1);
            int[] many = {1, 65521, 0, 0, 0, 0};
            for (int what = 0; what < 6; what++) {
                Due.answered("many " + what, x, x.many(what), many[what]);
            }
            for (int w = 0; w < 4; w++) {
                for (int what = 0; what < 4; what++) {
                    Due.answered("watcher", x, x.watcher(w, what), 0);
                }
            }
            Due.refused("RECORD 1", x, x.size(1), 2);
            Due.refused("FROZEN", x, x.frozen(0, 0), 5);
        });
        Edge.of("load() makes all anew: each time, and behind a TEXT with a FAULT at its end", () -> {
            String text = "mod 101;add a;show 0 1;freeze;fork 0;add b;show 0 1;show 3 1;freeze;fork 1;";
            ProvenRecord x = Due.loaded(text);
            x.load(Due.feed(x, text));
            Due.refused("a FAULT at the end", x, x.load(Due.feed(x, text + "!")), 9);
            List<String> due = Look.butTapeAndFault(Edge.fresh());
            for (int round = 0; round < 3; round++) {
                Due.answered("load", x, x.load(0), 1);
                Edge.same("round " + round, Look.butTapeAndFault(x), due);
            }
        });
        Edge.of("load() makes all anew: from the most there may be, to as much again", () -> {
            ProvenRecord x = Edge.full();
            x.load(0);
            String most = "add b;".repeat(48) + "freeze;".repeat(16) + "fork 48;fork 48;fork 48;";
            Due.answered("load", x, x.load(Due.feed(x, most)), 4);
            Due.answered("ENTRIES", x, x.size(3), 48);
            Due.answered("b", x, x.entry(3, 47, 2), 2);
            Due.answered("FROZEN", x, x.many(3), 16);
            Due.answered("SOUND", x, x.frozen(15, 4), 1);
            Due.answered("ACTS", x, x.many(4), 67);
        });
        Edge.of("the PAD is empty then", () -> {
            ProvenRecord x = Edge.full();
            x.load(0);
            Due.answered("MARKS", x, x.many(2), 0);
            Due.refused("none", x, x.pad(0), 5);
        });
        Edge.of("with a FAULT the PAD is as it was", () -> {
            ProvenRecord x = Edge.rich();
            Due.refused("load", x, x.load(5), 9);
            Due.pad("the PAD", x, 7, 8, 9);
        });
        Edge.of("M is for all that is loaded, and for what comes then", () -> {
            ProvenRecord x = Due.loaded("mod 101;add ab;");
            Due.answered("88", x, x.entry(0, 0, 1), 88);
            Due.answered("load", x, x.load(Due.feed(x, "add ab;")), 1);
            Due.answered("189", x, x.entry(0, 0, 1), 189);
            Due.answered("M less 1", x, x.push(65520), 1);
        });
    }
}
