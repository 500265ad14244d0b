/**
 * Edges of promises 38 to 60: who was shown what; what is weak. What the objects have stands at Edge.rich() and Edge.full().
 * By M 101 two first MARKS join alike if together they are 64 (or 165).
 */
public final class EdgesOfWatchingTest {
    private static final int LEAST = Edge.LEAST;
    private static final int MOST = Edge.MOST;
    private static final String PARTED =
        "mod 101;add a;show 0 1;fork 0;add b;show 1 1;to 0;fork 0;add c;show 2 1;to 0;fork 0;add d;show 3 1;";

    private EdgesOfWatchingTest() {
    }

    public static void main(String[] args) {
        agree();
        where();
        tree();
        proves();
        longest();
        part();
        blame();
        weak();
        clash();
        forge();
        trace();
        span();
        rise();
        kept();
        sick();
        chain();
        split();
        tell();
        tellGrowth();
        out();
        trusted();
        saves();
        who();
        Edge.end();
    }

    private static void agree() {
        Edge.refused("38: (2)", Edge::rich, 2, x -> x.agree(4, 0), x -> x.agree(0, 4), x -> x.agree(-1, 0), x -> x.agree(0, -1),
            x -> x.agree(LEAST, MOST));
        Edge.gives("38: the first and the last, who TRUST nothing", Edge::fresh, 1, x -> x.agree(0, 3), x -> x.agree(3, 0));
        Edge.gives("38: one and what it TRUSTS itself", Edge::rich, 1, x -> x.agree(1, 1), x -> x.agree(3, 3));
        Edge.gives("38: some RECORD has what each TRUSTS", Edge::rich, 1, x -> x.agree(0, 1), x -> x.agree(0, 2), x -> x.agree(3, 1));
        Edge.gives("38: no RECORD has both", Edge::rich, 0, x -> x.agree(1, 2), x -> x.agree(2, 1));
        Edge.of("38: as HEAD of that size: a RECORD has just so many, none has", () -> {
            ProvenRecord x = Due.loaded("mod 101;add a;add b;show 0 2;show 1 1;");
            Due.answered("just so many", x, x.agree(0, 1), 1);
            x.spoil(0, 1, 0, 26);
            Due.answered("none has", x, x.agree(0, 1), 0);
            Due.answered("none has, itself", x, x.agree(0, 0), 0);
            Due.answered("1 is there still", x, x.agree(1, 1), 1);
        });
        Edge.of("38: some RECORD: the last of four", () -> {
            ProvenRecord x = Due.loaded("mod 101;add a;fork 0;fork 0;fork 0;add b;show 0 1;show 3 1;");
            Due.answered("the last", x, x.agree(0, 3), 1);
        });
    }

    private static void where() {
        Edge.refused("39: (1): what below 0, above 1", Edge::rich, 1, x -> x.where(0, -1), x -> x.where(0, 2),
            x -> x.where(0, LEAST), x -> x.where(0, MOST));
        Edge.refused("39: (2)", Edge::rich, 2, x -> x.where(2, 0), x -> x.where(-1, 1), x -> x.where(MOST, 0));
        Edge.refused("39: 1 ahead of 2", Edge::rich, 1, x -> x.where(2, 2), x -> x.where(-1, -1));
        Edge.refused("39: (5): what 0, none is it", Edge::rich, 5, x -> x.where(0, 0), x -> x.where(1, 0));
        Edge.refused("39: (5): what 0, of no ENTRIES", Edge::fresh, 5, x -> x.where(0, 0));
        Edge.gives("39: how many are: none", Edge::rich, 0, x -> x.where(0, 1));
        Edge.of("39: the first ENTRY that is it: 0, the last of 48; how many are: all", () -> {
            ProvenRecord x = Edge.full();
            Due.type(x, "a");
            Due.answered("the first", x, x.where(0, 0), 0);
            Due.answered("all", x, x.where(0, 1), 48);
            x.spoil(0, 47, 0, 26);
            Due.type(x, "z");
            Due.answered("the last", x, x.where(0, 0), 47);
            Due.answered("one", x, x.where(0, 1), 1);
        });
        Edge.of("39: the word typed: without letters; one that only begins like it; of 8 letters", () -> {
            ProvenRecord x = Due.loaded("add abcdefgh;add abcdefg;add abcdefgi;add;");
            Due.answered("no word", x, x.where(0, 0), 3);
            Due.type(x, "abcdefg");
            Due.answered("7 letters", x, x.where(0, 0), 1);
            Due.type(x, "abcdefgi");
            Due.answered("8 letters", x, x.where(0, 0), 2);
            Due.type(x, "abcdef");
            Due.refused("6 letters", x, x.where(0, 0), 5);
        });
        Edge.of("39: it: another word with the same MARK is not", () -> {
            ProvenRecord x = Due.loaded("mod 101;add cu;");
            Due.type(x, "ft");
            Due.answered("64", x, x.mark(), x.entry(0, 0, 1));
            Due.answered("none", x, x.where(0, 1), 0);
        });
    }

    private static void tree() {
        Edge.refused("40: (1): what below 0, above 2", Edge::rich, 1, x -> x.tree(0, 5, 0, -1), x -> x.tree(0, 5, 0, 3),
            x -> x.tree(0, 5, 0, MOST));
        Edge.refused("40: (1: n, k below 0)", Edge::rich, 1, x -> x.tree(0, -1, 0, 0), x -> x.tree(0, 5, -1, 0),
            x -> x.tree(0, LEAST, 0, 0), x -> x.tree(0, 5, LEAST, 0));
        Edge.refused("40: (2)", Edge::rich, 2, x -> x.tree(2, 5, 0, 0), x -> x.tree(-1, 5, 0, 0), x -> x.tree(MOST, 0, 0, 0));
        Edge.refused("40: (5): not so many ENTRIES", Edge::rich, 5, x -> x.tree(0, 6, 0, 0), x -> x.tree(0, MOST, 0, 0));
        Edge.refused("40: (5): no k-th: 9 of 5, 1 of 1, any of none", Edge::rich, 5, x -> x.tree(0, 5, 9, 0),
            x -> x.tree(0, 1, 1, 0), x -> x.tree(0, 0, 0, 0), x -> x.tree(0, 5, MOST, 0), x -> x.tree(0, 0, MOST, 0));
        Edge.refused("40: 1 ahead of 2 and 5", Edge::rich, 1, x -> x.tree(2, 5, 0, 3), x -> x.tree(2, -1, 0, 0),
            x -> x.tree(0, 6, -1, 0));
        Edge.refused("40: 2 ahead of 5", Edge::rich, 2, x -> x.tree(2, 6, 0, 0), x -> x.tree(2, 0, 0, 0));
        Edge.of("40: the whole is the first, of one the only one", () -> {
            ProvenRecord x = Edge.rich();
            int[] due = {0, 5, 89};
            int[] one = {0, 1, 12};
            for (int what = 0; what < 3; what++) {
                Due.answered("the whole", x, x.tree(0, 5, 0, what), due[what]);
                Due.answered("of one", x, x.tree(0, 1, 0, what), one[what]);
            }
        });
        Edge.of("40: the last ENTRY alone is the last", () -> {
            ProvenRecord x = Edge.rich();
            int[] due = {4, 1, 16};
            for (int what = 0; what < 3; what++) {
                Due.answered("8 of 5", x, x.tree(0, 5, 8, what), due[what]);
            }
            ProvenRecord y = Edge.full();
            Due.answered("94 of 48", y, y.tree(0, 48, 94, 0), 47);
            Due.answered("94 of 48", y, y.tree(0, 48, 94, 1), 1);
            Due.refused("95 of 48", y, y.tree(0, 48, 95, 0), 5);
        });
        Edge.of("40: by their first ENTRY, of one the wider ones first: at the edge of both parts", () -> {
            ProvenRecord x = Edge.full();
            int[][] due = {{0, 48}, {0, 32}, {0, 16}, {0, 8}, {0, 4}, {0, 2}, {0, 1}, {1, 1}, {2, 2}};
            for (int k = 0; k < due.length; k++) {
                Due.answered("first", x, x.tree(0, 48, k, 0), due[k][0]);
                Due.answered("many", x, x.tree(0, 48, k, 1), due[k][1]);
            }
            Due.answered("the last of the first part", x, x.tree(0, 48, 63, 0), 31);
            Due.answered("the last of the first part", x, x.tree(0, 48, 63, 1), 1);
            Due.answered("all of the others", x, x.tree(0, 48, 64, 0), 32);
            Due.answered("all of the others", x, x.tree(0, 48, 64, 1), 16);
        });
    }

    private static void proves() {
        Edge.refused("41: (1: below 0)", Edge::rich, 1, x -> x.proves(-1, 0), x -> x.proves(0, -1), x -> x.proves(LEAST, LEAST));
        Edge.refused("41: (5: none such)", Edge::rich, 5, x -> x.proves(3, 0), x -> x.proves(0, 3), x -> x.proves(MOST, MOST));
        Edge.refused("41: (5: none such): of 16", Edge::full, 5, x -> x.proves(16, 0), x -> x.proves(0, 16));
        Edge.refused("41: (5: the first has the greater size)", Edge::rich, 5, x -> x.proves(1, 0), x -> x.proves(2, 0));
        Edge.refused("41: 1 ahead of 5", Edge::rich, 1, x -> x.proves(-1, 9), x -> x.proves(9, -1));
        Edge.gives("41: of equal sizes: itself, another one", Edge::full, 0, x -> x.proves(0, 0), x -> x.proves(0, 15),
            x -> x.proves(15, 0));
        Edge.gives("41: of equal sizes, unlike", Edge::rich, 3, x -> x.proves(1, 2), x -> x.proves(2, 1));
        Edge.gives("41: greater by one", Edge.loaded("add a;freeze;add b;freeze;"), 0, x -> x.proves(0, 1));
        Edge.refused("41: less by one", Edge.loaded("add a;freeze;add b;freeze;"), 5, x -> x.proves(1, 0));
        Edge.gives("41: from none: any is TAKEN", Edge.loaded("freeze;fork 0;freeze;add a;freeze;"), 0, x -> x.proves(0, 1),
            x -> x.proves(0, 2), x -> x.proves(1, 2), x -> x.proves(0, 0));
        Edge.of("41: with MARKS of the RECORD of the latter as it is now", () -> {
            ProvenRecord x = Edge.rich();
            Due.answered("3 to 5", x, x.proves(0, 1), 0);
            Due.answered("3 to 5 of another RECORD", x, x.proves(0, 2), 0);
            x.spoil(0, 4, 0, 26);
            Due.answered("the newer one", x, x.proves(0, 1), 4);
            Due.answered("the other RECORD is as it was", x, x.proves(0, 2), 0);
            x.spoil(0, 0, 0, 26);
            Due.answered("the older one", x, x.proves(0, 1), 3);
        });
    }

    private static int stepsOfAll(int n) {
        int p = Integer.highestOneBit(n - 1);
        return n < 2 ? 0 : stepsOfAll(p) + stepsOfAll(n - p) + n;
    }

    private static void longest() {
        Edge.refused("42: (1: n not 1 to 512)", Edge::rich, 1, x -> x.longest(0, 0), x -> x.longest(513, 0), x -> x.longest(-1, 0),
            x -> x.longest(LEAST, 0), x -> x.longest(MOST, 0));
        Edge.refused("42: (1): what below 0, above 2", Edge::rich, 1, x -> x.longest(5, -1), x -> x.longest(5, 3),
            x -> x.longest(5, MOST));
        Edge.gives("42: of one: none, the first, none", Edge::fresh, 0, x -> x.longest(1, 0), x -> x.longest(1, 1),
            x -> x.longest(1, 2));
        Edge.gives("42: of 512, the most STEPS", Edge::fresh, 9, x -> x.longest(512, 0), x -> x.longest(511, 0),
            x -> x.longest(257, 0));
        Edge.gives("42: of 256, the most STEPS", Edge::fresh, 8, x -> x.longest(256, 0));
        Edge.of("42: STEPS of all together, of each n", () -> {
            ProvenRecord x = Edge.fresh();
            for (int n : new int[] {1, 2, 3, 4, 5, 255, 256, 257, 511, 512}) {
                Due.answered("STEPS of " + n, x, x.longest(n, 2), stepsOfAll(n));
            }
        });
        Edge.gives("42: the first thing that has so many: 0, for the first part is the deeper one", Edge::fresh, 0,
            x -> x.longest(2, 1), x -> x.longest(3, 1), x -> x.longest(7, 1), x -> x.longest(512, 1));
    }

    private static void part() {
        Edge.refused("43: (1): what below 0, above 1", Edge::rich, 1, x -> x.part(0, 1, -1), x -> x.part(0, 1, 2),
            x -> x.part(0, 1, LEAST), x -> x.part(0, 1, MOST));
        Edge.refused("43: (2)", Edge::rich, 2, x -> x.part(2, 0, 0), x -> x.part(0, 2, 0), x -> x.part(-1, 0, 0),
            x -> x.part(0, -1, 1), x -> x.part(MOST, LEAST, 0));
        Edge.refused("43: 1 ahead of 2", Edge::rich, 1, x -> x.part(2, 0, 2), x -> x.part(0, -1, -1));
        Edge.gives("43: NONE: they are ALIKE by MARKS; STATUS tells NONE from -1", Edge::full, -1, x -> x.part(0, 3, 0),
            x -> x.part(3, 0, 0), x -> x.part(0, 0, 0));
        Edge.gives("43: how many were COMPARED: 0 where the HEADS are alike", Edge::full, 0, x -> x.part(0, 3, 1));
        Edge.gives("43: the ENTRY", Edge::rich, 3, x -> x.part(0, 1, 0), x -> x.part(1, 0, 0));
        Edge.gives("43: COMPARED: abcd, ab, c", Edge::rich, 3, x -> x.part(0, 1, 1), x -> x.part(1, 0, 1));
        Edge.gives("43: one has none: at 0", Edge.loaded("add a;fork 0;"), 0, x -> x.part(0, 1, 0), x -> x.part(1, 0, 0),
            x -> x.part(0, 1, 1));
        Edge.gives("43: both have none: ALIKE", Edge.loaded("fork 0;"), -1, x -> x.part(0, 1, 0));
        Edge.gives("43: unlike ENTRIES of like MARKS: ALIKE by MARKS", Edge.loaded("mod 101;add cu;fork 0;add ft;"), -1,
            x -> x.part(0, 1, 0));
        Edge.gives("43: n being what the shorter one has: one more behind unlike MARKS", Edge.loaded("add a;add b;fork 1;add c;add d;"),
            1, x -> x.part(0, 1, 0), x -> x.part(1, 0, 0), x -> x.part(0, 1, 1));
    }

    private static void blame() {
        Edge.refused("44: (1): what below 0, above 2", Edge::rich, 1, x -> x.blame(0, -1), x -> x.blame(0, 3),
            x -> x.blame(0, LEAST), x -> x.blame(0, MOST));
        Edge.refused("44: (2)", Edge::rich, 2, x -> x.blame(2, 0), x -> x.blame(-1, 1), x -> x.blame(MOST, 2));
        Edge.refused("44: 1 ahead of 2", Edge::rich, 1, x -> x.blame(2, 3), x -> x.blame(-1, -1));
        Edge.gives("44: NONE: all are SOUND; STATUS tells NONE from -1", Edge::rich, -1, x -> x.blame(0, 0), x -> x.blame(0, 1));
        Edge.gives("44: NONE: none is FROZEN", Edge::fresh, -1, x -> x.blame(0, 0), x -> x.blame(0, 1));
        Edge.gives("44: how many are not SOUND: none", Edge::rich, 0, x -> x.blame(0, 2), x -> x.blame(1, 2));
        Edge.of("44: the least size, the greatest that is SOUND and less: at the edge", () -> {
            ProvenRecord x = Edge.rich();
            x.spoil(0, 3, 0, 26);
            Due.answered("5 is not", x, x.blame(0, 0), 5);
            Due.answered("3 is", x, x.blame(0, 1), 3);
            Due.answered("one", x, x.blame(0, 2), 1);
            Due.answered("the other RECORD", x, x.blame(1, 0), -1);
            x.spoil(0, 2, 0, 26);
            Due.answered("3 is not", x, x.blame(0, 0), 3);
            Due.answered("0 without", x, x.blame(0, 1), 0);
            Due.answered("two", x, x.blame(0, 2), 2);
        });
        Edge.of("44: a size that is SOUND, but greater or the same, is not less", () -> {
            ProvenRecord x = Due.loaded("mod 101;freeze;add a;freeze;");
            x.spoil(0, 0, 0, 26);
            x.freeze(0);
            x.add(0);
            x.freeze(0);
            Due.answered("1", x, x.blame(0, 0), 1);
            Due.answered("of none", x, x.blame(0, 1), 0);
            Due.answered("one", x, x.blame(0, 2), 1);
        });
        Edge.of("44: all of 16 are not SOUND", () -> {
            ProvenRecord x = Edge.full();
            x.spoil(0, 47, 0, 26);
            Due.answered("48", x, x.blame(0, 0), 48);
            Due.answered("0 without", x, x.blame(0, 1), 0);
            Due.answered("16", x, x.blame(0, 2), 16);
        });
    }

    private static void weak() {
        Edge.refused("45: (1): what below 0, above 1", Edge::rich, 1, x -> x.weak(0, 0, 5, -1), x -> x.weak(0, 0, 5, 2),
            x -> x.weak(0, 0, 5, MOST));
        Edge.refused("45: (1: i, n below 0)", Edge::rich, 1, x -> x.weak(0, -1, 5, 0), x -> x.weak(0, 0, -1, 0),
            x -> x.weak(0, LEAST, 5, 0), x -> x.weak(0, 0, LEAST, 0));
        Edge.refused("45: (2)", Edge::rich, 2, x -> x.weak(2, 0, 1, 0), x -> x.weak(-1, 0, 1, 0), x -> x.weak(MOST, 0, 1, 0));
        Edge.refused("45: (5: not so many ENTRIES)", Edge::rich, 5, x -> x.weak(0, 0, 6, 0), x -> x.weak(0, 0, MOST, 0));
        Edge.refused("45: (5: i is none of these)", Edge::rich, 5, x -> x.weak(0, 5, 5, 0), x -> x.weak(0, 0, 0, 0),
            x -> x.weak(0, MOST, 5, 1));
        Edge.refused("45: 1 ahead of 2 and 5", Edge::rich, 1, x -> x.weak(2, 0, 1, 2), x -> x.weak(2, -1, 1, 0),
            x -> x.weak(0, 9, 5, 2), x -> x.weak(0, -1, 9, 0));
        Edge.refused("45: 2 ahead of 5", Edge::rich, 2, x -> x.weak(2, 5, 5, 0), x -> x.weak(2, 0, 6, 0));
        Edge.gives("45: how many: none, of one alone", Edge::rich, 0, x -> x.weak(0, 0, 1, 0));
        Edge.refused("45: the least (5): there is none", Edge::rich, 5, x -> x.weak(0, 0, 1, 1), x -> x.weak(0, 4, 5, 1),
            x -> x.weak(0, 1, 2, 1));
        Edge.gives("45: how many: one", Edge::rich, 1, x -> x.weak(0, 0, 2, 0));
        Edge.gives("45: the least: 12 and 52 are 64", Edge::rich, 52, x -> x.weak(0, 0, 2, 1));
        Edge.gives("45: the least: 0", Edge.loaded("mod 101;add cu;add b;"), 0, x -> x.weak(0, 0, 2, 1));
        Edge.gives("45: the least: M less 1", Edge.loaded("mod 101;add cv;add b;"), 100, x -> x.weak(0, 0, 2, 1));
        // a first MARK x is 17 and x by M when it is mixed: 84 is 0, 83 is M less 1
        Edge.gives("45: the least: one that is mixed to 0", Edge.loaded("mod 101;add df;add b;"), 84, x -> x.weak(0, 0, 2, 1));
        Edge.gives("45: of one that is mixed to 0", Edge.loaded("mod 101;add di;add b;"), 81, x -> x.weak(0, 0, 2, 1));
        Edge.gives("45: the least: one that is mixed to M less 1", Edge.loaded("mod 101;add dg;add b;"), 83,
            x -> x.weak(0, 0, 2, 1));
        Edge.gives("45: of one that is mixed to M less 1", Edge.loaded("mod 101;add dh;add b;"), 82, x -> x.weak(0, 0, 2, 1));
        Edge.of("45: how many: one, where it or the other one is mixed to 0, to M less 1", () -> {
            for (String word : new String[] {"df", "dg", "dh", "di"}) {
                ProvenRecord x = Due.loaded("mod 101;add " + word + ";add b;");
                Due.answered(word, x, x.weak(0, 0, 2, 0), 1);
            }
        });
        Edge.of("45: what was forged ahead, by what M there was ahead, is not seen in it", () -> {
            ProvenRecord x = Edge.rich();
            Due.setPad(x, 13, 66, 16);
            x.forge(12, 0, 5, 89, 2);
            Due.answered("0 of 2", x, x.weak(0, 0, 2, 1), 52);
            x.forge(12, 0, 5, 89, 0);
            Due.answered("0 of 2", x, x.weak(0, 0, 2, 0), 1);
            x.hear(0);
            x.load(Due.feed(x, "mod 103;add a;add b;"));
            // by 103 two first MARKS join alike if together they are 66: -3 less 34
            Due.answered("by another M", x, x.weak(0, 0, 2, 1), 54);
        });
        Edge.of("45: all that would be TAKEN, by the least M and the greatest, by powers", () -> {
            for (int m : new int[] {101, 128, 32768, 59049, 65520, 65521}) {
                ProvenRecord x = Due.loaded("mod " + m + ";add a;add b;add c;add d;add e;");
                for (int i = 0; i < 5; i++) {
                    weakIs(x, m, i);
                }
            }
        });
    }

    private static void weakIs(ProvenRecord x, int m, int i) {
        int marks = x.include(0, i, 5);
        int[] row = new int[marks];
        for (int k = 0; k < marks; k++) {
            row[k] = x.pad(k);
        }
        int own = x.entry(0, i, 1);
        int head = x.head(0, 5);
        int found = 0;
        int least = -1;
        for (int mark = m - 1; mark >= 0; mark--) {
            if (mark != own && foldedOfFive(m, mark, i, row) == head) {
                found++;
                least = mark;
            }
        }
        Due.answered("weak by " + m + " of " + i, x, x.weak(0, i, 5, 0), found);
        Due.due("the least by " + m + " of " + i, x.weak(0, i, 5, 1), least);
        Due.due("status()", x.status(), found == 0 ? 5 : 0);
    }

    private static int foldedOfFive(int m, int mark, int i, int[] row) {
        if (i == 4) {
            return Due.join(m, row[0], mark);
        }
        int pair = i % 2 == 0 ? Due.join(m, mark, row[0]) : Due.join(m, row[0], mark);
        int four = i < 2 ? Due.join(m, pair, row[1]) : Due.join(m, row[1], pair);
        return Due.join(m, four, row[2]);
    }

    /** RECORD 0 of rich(), with a PAD by which 52 is TAKEN as 0 of 5. */
    private static ProvenRecord clashing() {
        ProvenRecord x = Edge.rich();
        Due.setPad(x, 13, 66, 16);
        return x;
    }

    private static void clash() {
        Edge.refused("46: (1): what below 0, above 4", EdgesOfWatchingTest::clashing, 1, x -> x.clash(0, 0, 5, 52, -1),
            x -> x.clash(0, 0, 5, 52, 5), x -> x.clash(0, 0, 5, 52, MOST));
        Edge.refused("46: (1: i, n below 0)", EdgesOfWatchingTest::clashing, 1, x -> x.clash(0, -1, 5, 52, 0),
            x -> x.clash(0, 0, -1, 52, 0), x -> x.clash(0, LEAST, LEAST, 52, 0));
        Edge.refused("46: (1: a MARK)", EdgesOfWatchingTest::clashing, 1, x -> x.clash(0, 0, 5, 101, 0),
            x -> x.clash(0, 0, 5, -1, 0), x -> x.clash(0, 0, 5, MOST, 0));
        Edge.refused("46: (2)", EdgesOfWatchingTest::clashing, 2, x -> x.clash(2, 0, 5, 52, 0), x -> x.clash(-1, 0, 5, 52, 0));
        Edge.refused("46: (5: not so many ENTRIES)", EdgesOfWatchingTest::clashing, 5, x -> x.clash(0, 0, 6, 52, 0),
            x -> x.clash(0, 0, MOST, 52, 0));
        Edge.refused("46: (5: i is none of these)", EdgesOfWatchingTest::clashing, 5, x -> x.clash(0, 5, 5, 52, 0),
            x -> x.clash(0, 0, 0, 52, 0));
        Edge.refused("46: (5: it is not TAKEN by that HEAD)", EdgesOfWatchingTest::clashing, 5, x -> x.clash(0, 0, 5, 53, 0),
            x -> x.clash(0, 0, 5, 51, 0), x -> x.clash(1, 0, 5, 52, 0));
        Edge.of("46: (5: it is not TAKEN): one MARK too few, one too many", () -> {
            ProvenRecord x = clashing();
            x.push(0);
            Due.refused("too many", x, x.clash(0, 0, 5, 52, 0), 5);
            x.cut(3);
            Due.answered("just so many", x, x.clash(0, 0, 5, 52, 0), 0);
            x.cut(2);
            Due.refused("too few", x, x.clash(0, 0, 5, 52, 0), 5);
            Due.pad("the PAD stays", x, 13, 66);
        });
        Edge.refused("46: (5: both are one in all)", EdgesOfWatchingTest::clashing, 5, x -> x.clash(0, 0, 5, 12, 0),
            x -> x.clash(0, 0, 5, 12, 4));
        Edge.refused("46: 1 ahead of 2 and 5", EdgesOfWatchingTest::clashing, 1, x -> x.clash(2, 0, 5, 101, 0),
            x -> x.clash(2, -1, 5, 52, 0), x -> x.clash(0, 5, 5, 52, 5), x -> x.clash(0, 0, 6, 101, 0));
        Edge.refused("46: 2 ahead of 5", EdgesOfWatchingTest::clashing, 2, x -> x.clash(2, 5, 5, 52, 0), x -> x.clash(2, 0, 6, 52, 0));
        Edge.of("46: one alone: what is TAKEN is one in all", () -> {
            ProvenRecord x = Edge.rich();
            x.cut(0);
            Due.refused("a", x, x.clash(0, 0, 1, 12, 0), 5);
            Due.refused("not a", x, x.clash(0, 0, 1, 13, 0), 5);
        });
        Edge.of("46: what 0 to 4", () -> {
            ProvenRecord x = clashing();
            int[] due = {0, 12, 13, 52, 13};
            for (int what = 0; what < 5; what++) {
                Due.answered("clash " + what, x, x.clash(0, 0, 5, 52, what), due[what]);
            }
        });
        Edge.of("46: the pair by the RECORD and the other one: both of both are unlike", () -> {
            ProvenRecord x = Edge.rich();
            // 14 with 89 is 39 as 12 with 13 is: 31 * 34 + 89 + 7 = 1150, less 1111
            Due.setPad(x, 89, 66, 16);
            int[] due = {0, 12, 13, 14, 89};
            for (int what = 0; what < 5; what++) {
                Due.answered("clash " + what, x, x.clash(0, 0, 5, 14, what), due[what]);
            }
        });
        Edge.of("46: the pair by its sides: the thing is the second one", () -> {
            ProvenRecord x = Edge.rich();
            // 12 and 52 are 64, so 52 with b is 39 as a with b is
            Due.setPad(x, 52);
            int[] due = {0, 12, 13, 52, 13};
            for (int what = 0; what < 5; what++) {
                Due.answered("clash " + what, x, x.clash(0, 1, 2, 13, what), due[what]);
            }
        });
        Edge.of("46: the first STEP of several that are unlike: pairs that come to unlike MARKS are passed by", () -> {
            ProvenRecord x = Edge.rich();
            // 39 and 25 are 64; 13 with 38 is 25
            Due.setPad(x, 38, 66, 16);
            int[] due = {1, 39, 66, 25, 66};
            for (int what = 0; what < 5; what++) {
                Due.answered("clash " + what, x, x.clash(0, 0, 5, 13, what), due[what]);
            }
        });
    }

    /** By M 101, with 13 on the PAD: 12 as 0 of 2 is TAKEN by 39. */
    private static ProvenRecord forging() {
        ProvenRecord x = Edge.rich();
        Due.setPad(x, 13);
        return x;
    }

    private static void forge() {
        Edge.refused("47: (1: i below 0, not below n)", EdgesOfWatchingTest::forging, 1, x -> x.forge(12, -1, 2, 39, 0),
            x -> x.forge(12, 2, 2, 39, 0), x -> x.forge(12, 0, 0, 39, 0), x -> x.forge(12, 0, -1, 39, 0),
            x -> x.forge(12, LEAST, 2, 39, 0), x -> x.forge(12, MOST, MOST, 39, 0));
        Edge.refused("47: (1: k below 0)", EdgesOfWatchingTest::forging, 1, x -> x.forge(12, 0, 2, 39, -1),
            x -> x.forge(12, 0, 2, 39, LEAST));
        Edge.refused("47: (1: a MARK)", EdgesOfWatchingTest::forging, 1, x -> x.forge(101, 0, 2, 39, 0),
            x -> x.forge(-1, 0, 2, 39, 0), x -> x.forge(12, 0, 2, 101, 0), x -> x.forge(12, 0, 2, -1, 0));
        Edge.refused("47: (5: the PAD has not just so many MARKS): one too many", EdgesOfWatchingTest::forging, 5,
            x -> x.forge(12, 0, 1, 12, 0));
        Edge.refused("47: (5: the PAD has not just so many MARKS): one too few", EdgesOfWatchingTest::forging, 5,
            x -> x.forge(12, 0, 3, 39, 0), x -> x.forge(12, 0, MOST, 39, 0));
        Edge.refused("47: (5: no k-th)", EdgesOfWatchingTest::forging, 5, x -> x.forge(12, 0, 2, 39, 1),
            x -> x.forge(12, 0, 2, 39, MOST));
        Edge.refused("47: (5: no k-th): one alone has none", Edge::fresh, 5, x -> x.forge(12, 0, 1, 12, 0));
        Edge.refused("47: 1 ahead of 5", EdgesOfWatchingTest::forging, 1, x -> x.forge(12, 0, 1, 101, 0), x -> x.forge(-1, 0, 3, 0, 9),
            x -> x.forge(12, 0, 3, 0, -1));
        Edge.gives("47: a second MARK: just one, 0 to M less 1", EdgesOfWatchingTest::forging, 13, x -> x.forge(12, 0, 2, 39, 0));
        // 12 with 0 is 26: 29 * 32 + 7 = 935
        Edge.gives("47: the least: 0", EdgesOfWatchingTest::forging, 0, x -> x.forge(12, 0, 2, 26, 0));
        Edge.gives("47: the least: M less 1", EdgesOfWatchingTest::forging, 100, x -> x.forge(12, 0, 2, 25, 0));
        Edge.gives("47: a first MARK: the least of 12 and 52", EdgesOfWatchingTest::forging, 12, x -> x.forge(13, 1, 2, 39, 0));
        // 0 and 64 join 13 to 57: 17 * 20 + 13 + 7 = 360; 65 and 100 join it to 18: 16 * 19 + 20 = 324, less 303 is 21
        Edge.gives("47: a first MARK: the least of 0 and 64", EdgesOfWatchingTest::forging, 0, x -> x.forge(13, 1, 2, 57, 0));
        Edge.gives("47: a first MARK: the least of 65 and 100", EdgesOfWatchingTest::forging, 65, x -> x.forge(13, 1, 2, 21, 0));
        Edge.of("47: by none", () -> {
            boolean[] comes = new boolean[101];
            for (int mark = 0; mark < 101; mark++) {
                comes[Due.join(101, mark, 13)] = true;
            }
            for (int head = 0; head < 101; head++) {
                ProvenRecord x = forging();
                int got = x.forge(13, 1, 2, head, 0);
                Due.due("status() of " + head, x.status(), comes[head] ? 0 : 5);
                Due.due("TAKEN by " + head, got < 0 ? -1 : Due.join(101, got, 13), comes[head] ? head : -1);
            }
        });
        Edge.of("47: as the k-th of the PAD: the first, the last; the PAD stays", () -> {
            ProvenRecord x = Edge.rich();
            Due.setPad(x, 13, 66, 16);
            // 12 with 1 is 27, that with 66 is 20, and 20 and 44 are 64
            Due.answered("the first", x, x.forge(12, 0, 5, 89, 0), 1);
            Due.answered("the last", x, x.forge(12, 0, 5, 89, 2), 16);
            Due.refused("one behind", x, x.forge(12, 0, 5, 89, 3), 5);
            Due.pad("the PAD", x, 13, 66, 16);
        });
        Edge.of("47: what was WEAK ahead is not seen in it", () -> {
            ProvenRecord x = forging();
            x.weak(0, 0, 2, 0);
            Due.answered("12, of the ENTRY that was not WEAK", x, x.forge(13, 1, 2, 39, 0), 12);
        });
        Edge.of("47: n as great as may be: the last of 31", () -> {
            ProvenRecord x = Edge.fresh();
            int folded = 5;
            for (int k = 1; k <= 31; k++) {
                x.push(k);
                folded = Due.join(65521, folded, k);
            }
            Due.answered("the last", x, x.forge(5, 0, MOST, folded, 30), 31);
            Due.refused("one behind", x, x.forge(5, 0, MOST, folded, 31), 5);
        });
    }

    private static void trace() {
        Edge.refused("48: (1: i below 0, not below n)", EdgesOfWatchingTest::clashing, 1, x -> x.trace(12, -1, 5, 0),
            x -> x.trace(12, 5, 5, 0), x -> x.trace(12, 0, 0, 0), x -> x.trace(12, 0, LEAST, 0), x -> x.trace(12, MOST, MOST, 0));
        Edge.refused("48: (1: k below 0)", EdgesOfWatchingTest::clashing, 1, x -> x.trace(12, 0, 5, -1), x -> x.trace(12, 0, 5, LEAST));
        Edge.refused("48: (1: a MARK)", EdgesOfWatchingTest::clashing, 1, x -> x.trace(101, 0, 5, 0), x -> x.trace(-1, 0, 5, 0));
        Edge.refused("48: (5: there are not so many STEPS)", EdgesOfWatchingTest::clashing, 5, x -> x.trace(12, 0, 2, 2),
            x -> x.trace(12, 0, 1, 1), x -> x.trace(12, 0, 5, MOST));
        Edge.refused("48: (5: there are not so many MARKS)", EdgesOfWatchingTest::clashing, 5, x -> x.trace(12, 0, 16, 4),
            x -> x.trace(12, 0, 5, 4));
        Edge.refused("48: (5): an empty PAD", Edge::fresh, 5, x -> x.trace(12, 0, 5, 1));
        Edge.refused("48: 1 ahead of 5", EdgesOfWatchingTest::clashing, 1, x -> x.trace(101, 0, 5, 9), x -> x.trace(12, 5, 5, 9));
        Edge.of("48: behind the first k STEPS: none, one, all", () -> {
            ProvenRecord x = clashing();
            int[] due = {12, 39, 44, 89};
            for (int k = 0; k < 4; k++) {
                Due.answered("trace " + k, x, x.trace(12, 0, 5, k), due[k]);
            }
        });
        Edge.of("48: the PAD may have more MARKS than STEPS, or fewer: so many as there are", () -> {
            ProvenRecord x = clashing();
            Due.answered("1 STEP, 3 MARKS", x, x.trace(12, 0, 2, 1), 39);
            Due.answered("4 STEPS, 3 MARKS", x, x.trace(12, 0, 16, 3), 89);
            x.cut(0);
            Due.answered("no MARKS", x, x.trace(100, 0, 16, 0), 100);
        });
    }

    private static void span() {
        Edge.refused("49: (1): what below 0, above 1", Edge::rich, 1, x -> x.span(2, 5, 0, -1), x -> x.span(2, 5, 0, 2),
            x -> x.span(2, 5, 0, MOST));
        Edge.refused("49: (1: i below 0, not below n)", Edge::rich, 1, x -> x.span(-1, 5, 0, 0), x -> x.span(5, 5, 0, 0),
            x -> x.span(0, 0, 0, 0), x -> x.span(0, -1, 0, 0), x -> x.span(MOST, MOST, 0, 0));
        Edge.refused("49: (1: k below 0)", Edge::rich, 1, x -> x.span(2, 5, -1, 0), x -> x.span(2, 5, LEAST, 0));
        Edge.refused("49: (5)", Edge::rich, 5, x -> x.span(2, 5, 3, 0), x -> x.span(0, 1, 0, 0), x -> x.span(4, 5, 1, 1),
            x -> x.span(2, 5, MOST, 0), x -> x.span(0, MOST, 31, 0));
        Edge.refused("49: 1 ahead of 5", Edge::rich, 1, x -> x.span(2, 5, 9, 2), x -> x.span(5, 5, 9, 0));
        Edge.of("49: the k-th MARK: the first, the last", () -> {
            ProvenRecord x = Edge.fresh();
            Due.answered("d", x, x.span(2, 5, 0, 0), 3);
            Due.answered("d", x, x.span(2, 5, 0, 1), 1);
            Due.answered("ab", x, x.span(2, 5, 1, 0), 0);
            Due.answered("ab", x, x.span(2, 5, 1, 1), 2);
            Due.answered("e", x, x.span(2, 5, 2, 0), 4);
            Due.answered("e", x, x.span(2, 5, 2, 1), 1);
        });
        Edge.of("49: of the most things", () -> {
            ProvenRecord x = Edge.fresh();
            Due.answered("beside the last", x, x.span(MOST - 1, MOST, 0, 0), MOST - 3);
            Due.answered("beside the last", x, x.span(MOST - 1, MOST, 0, 1), 2);
            Due.answered("the first part", x, x.span(MOST - 1, MOST, 29, 0), 0);
            Due.answered("the first part", x, x.span(MOST - 1, MOST, 29, 1), 1 << 30);
            Due.answered("the others", x, x.span(0, MOST, 30, 0), 1 << 30);
            Due.answered("the others", x, x.span(0, MOST, 30, 1), (1 << 30) - 1);
        });
    }

    private static void rise() {
        Edge.refused("50: (1): what below 0, above 1", Edge::rich, 1, x -> x.rise(3, 5, 0, -1), x -> x.rise(3, 5, 0, 2),
            x -> x.rise(3, 5, 0, MOST));
        Edge.refused("50: (1: m below 0, above n)", Edge::rich, 1, x -> x.rise(-1, 5, 0, 0), x -> x.rise(6, 5, 0, 0),
            x -> x.rise(0, -1, 0, 0), x -> x.rise(MOST, MOST - 1, 0, 0));
        Edge.refused("50: (1: k below 0)", Edge::rich, 1, x -> x.rise(3, 5, -1, 0), x -> x.rise(3, 5, LEAST, 0));
        Edge.refused("50: (5)", Edge::rich, 5, x -> x.rise(3, 5, 4, 0), x -> x.rise(4, 5, 1, 0), x -> x.rise(3, 5, MOST, 0));
        Edge.refused("50: (5): from 0, from n", Edge::rich, 5, x -> x.rise(0, 5, 0, 0), x -> x.rise(5, 5, 0, 0),
            x -> x.rise(0, 0, 0, 0), x -> x.rise(MOST, MOST, 0, 1));
        Edge.refused("50: 1 ahead of 5", Edge::rich, 1, x -> x.rise(3, 5, 9, 2), x -> x.rise(6, 5, 9, 0));
        Edge.of("50: the k-th MARK: the first, the last", () -> {
            ProvenRecord x = Edge.fresh();
            int[][] due = {{2, 1}, {3, 1}, {0, 2}, {4, 1}};
            for (int k = 0; k < 4; k++) {
                Due.answered("first " + k, x, x.rise(3, 5, k, 0), due[k][0]);
                Due.answered("many " + k, x, x.rise(3, 5, k, 1), due[k][1]);
            }
        });
        Edge.of("50: of the most things", () -> {
            ProvenRecord x = Edge.fresh();
            Due.answered("whole", x, x.rise(1 << 30, MOST, 0, 0), 1 << 30);
            Due.answered("whole", x, x.rise(1 << 30, MOST, 0, 1), (1 << 30) - 1);
            Due.answered("not whole", x, x.rise(MOST - 1, MOST, 0, 0), MOST - 3);
            Due.answered("not whole", x, x.rise(MOST - 1, MOST, 0, 1), 2);
            Due.answered("the last thing", x, x.rise(MOST - 1, MOST, 1, 0), MOST - 1);
        });
    }

    private static void kept() {
        Edge.refused("51: (1: i below 0)", Edge::rich, 1, x -> x.kept(-1, 5, 9), x -> x.kept(LEAST, 5, 9));
        Edge.refused("51: (1: i not below n)", Edge::rich, 1, x -> x.kept(5, 5, 9), x -> x.kept(0, 0, 9), x -> x.kept(0, -1, 9),
            x -> x.kept(MOST, MOST, MOST));
        Edge.refused("51: (1: r below n)", Edge::rich, 1, x -> x.kept(2, 5, 4), x -> x.kept(2, 5, -1), x -> x.kept(0, MOST, MOST - 1),
            x -> x.kept(2, 5, LEAST));
        Edge.gives("51: r being n: all of them", Edge::fresh, 3, x -> x.kept(2, 5, 5));
        Edge.gives("51: r one more: d and ab, not e", Edge::fresh, 2, x -> x.kept(2, 5, 6));
        Edge.gives("51: r one more than a power of 2: all of them", Edge::fresh, 2, x -> x.kept(2, 4, 5), x -> x.kept(0, 4, MOST));
        Edge.gives("51: one alone has none", Edge::fresh, 0, x -> x.kept(0, 1, 1), x -> x.kept(0, 1, 2), x -> x.kept(0, 1, MOST));
        Edge.gives("51: one in common: ab; b, not c", Edge::fresh, 1, x -> x.kept(2, 3, 4), x -> x.kept(0, 3, 4));
        Edge.gives("51: the most things", Edge::fresh, 31, x -> x.kept(0, MOST, MOST));
        Edge.gives("51: the most things, one fewer", Edge::fresh, 30, x -> x.kept(0, MOST - 1, MOST));
    }

    private static void sick() {
        Edge.refused("52: (1: below 0)", Edge::rich, 1, x -> x.sick(-1), x -> x.sick(LEAST));
        Edge.refused("52: (5)", Edge::rich, 5, x -> x.sick(3), x -> x.sick(15), x -> x.sick(16), x -> x.sick(MOST));
        Edge.refused("52: (5): nothing FROZEN", Edge::fresh, 5, x -> x.sick(0));
        Edge.refused("52: (5): of 16", Edge::full, 5, x -> x.sick(16));
        Edge.gives("52: none, of each", Edge::full, 0, x -> x.sick(0), x -> x.sick(15));
        Edge.of("52: of 48 the first, the last PEAK", () -> {
            ProvenRecord x = Edge.full();
            x.spoil(0, 31, 0, 26);
            Due.answered("the first", x, x.sick(15), 1);
            x.spoil(0, 31, 0, 1);
            x.spoil(0, 32, 0, 26);
            Due.answered("the last", x, x.sick(15), 2);
            x.spoil(0, 0, 0, 26);
            Due.answered("both", x, x.sick(0), 3);
        });
        Edge.of("52: a letter behind its size makes none SICK", () -> {
            ProvenRecord x = Edge.rich();
            x.spoil(0, 3, 0, 26);
            Due.answered("3", x, x.sick(0), 0);
            Due.answered("5", x, x.sick(1), 1);
            Due.answered("the other RECORD", x, x.sick(2), 0);
        });
    }

    private static void chain() {
        Edge.refused("53: (1): what below 0, above 2", Edge::rich, 1, x -> x.chain(0, -1), x -> x.chain(0, 3),
            x -> x.chain(0, LEAST), x -> x.chain(0, MOST));
        Edge.refused("53: (2)", Edge::rich, 2, x -> x.chain(2, 0), x -> x.chain(-1, 1), x -> x.chain(MOST, 2));
        Edge.refused("53: 1 ahead of 2", Edge::rich, 1, x -> x.chain(2, 3), x -> x.chain(-1, -1));
        Edge.gives("53: none", Edge::fresh, 0, x -> x.chain(0, 0), x -> x.chain(0, 1), x -> x.chain(0, 2));
        Edge.gives("53: HEADS: two", Edge::rich, 2, x -> x.chain(0, 0));
        Edge.gives("53: HEADS: one", Edge::rich, 1, x -> x.chain(1, 0));
        Edge.gives("53: MARKS and LINKS: c, d, ab, e", Edge::rich, 4, x -> x.chain(0, 1), x -> x.chain(0, 2));
        Edge.gives("53: one HEAD: no MARKS, no LINKS", Edge::rich, 0, x -> x.chain(1, 1), x -> x.chain(1, 2));
        Edge.gives("53: 16 of one size: one HEAD", Edge::full, 1, x -> x.chain(0, 0));
        Edge.gives("53: 16 of one size: no MARKS", Edge::full, 0, x -> x.chain(0, 1), x -> x.chain(0, 2), x -> x.chain(3, 0));
    }

    private static void split() {
        Edge.refused("54: (1): what below 0, above 1", Edge::rich, 1, x -> x.split(-1), x -> x.split(2), x -> x.split(LEAST),
            x -> x.split(MOST));
        Edge.gives("54: how many: none", Edge::fresh, 0, x -> x.split(0));
        Edge.refused("54: (5 of 1: there is none)", Edge::fresh, 5, x -> x.split(1));
        Edge.gives("54: how many: one", Edge::rich, 1, x -> x.split(0));
        Edge.gives("54: the first couple: 1 and 2", Edge::rich, 12, x -> x.split(1));
        Edge.gives("54: how many: all six", Edge.loaded(PARTED), 6, x -> x.split(0));
        Edge.gives("54: the first couple: 0 and 1", Edge.loaded(PARTED), 1, x -> x.split(1));
        Edge.gives("54: the first couple: 2 and 3, the last of all", Edge.loaded("add a;show 2 1;fork 0;add b;show 3 1;"), 23,
            x -> x.split(1));
        Edge.of("54: couples are of two: one that no RECORD agrees with is none by itself", () -> {
            ProvenRecord x = Due.loaded("add a;show 3 1;");
            x.spoil(0, 0, 0, 2);
            Due.answered("itself", x, x.agree(3, 3), 0);
            Due.answered("0, 1, 2 with 3", x, x.split(0), 3);
            Due.answered("the first", x, x.split(1), 3);
        });
        Edge.gives("54: the first couple: 0 and 3", Edge.loaded("add a;show 0 1;fork 0;add b;show 3 1;"), 3, x -> x.split(1));
    }

    private static void told(String call, ProvenRecord x, int bytes, String text) {
        Due.answered(call, x, bytes, text.length());
        for (int k = 0; k < text.length(); k++) {
            Due.answered(call + ", byte " + k, x, x.out(k), text.charAt(k));
        }
        Due.refused("one behind the last", x, x.out(text.length()), 5);
    }

    private static void tell() {
        Edge.refused("55: (1: i, n below 0)", Edge::rich, 1, x -> x.tell(0, -1, 5), x -> x.tell(0, 0, -1), x -> x.tell(0, LEAST, 5),
            x -> x.tell(0, 0, LEAST));
        Edge.refused("55: (2)", Edge::rich, 2, x -> x.tell(2, 0, 1), x -> x.tell(-1, 0, 1), x -> x.tell(MOST, 0, 1));
        Edge.refused("55: (5: not so many ENTRIES)", Edge::rich, 5, x -> x.tell(0, 0, 6), x -> x.tell(0, 0, MOST));
        Edge.refused("55: (5: i is none of these)", Edge::rich, 5, x -> x.tell(0, 5, 5), x -> x.tell(0, 0, 0), x -> x.tell(0, MOST, 5));
        Edge.refused("55: 1 ahead of 2 and 5", Edge::rich, 1, x -> x.tell(2, -1, 5), x -> x.tell(0, 9, -1));
        Edge.refused("55: 2 ahead of 5", Edge::rich, 2, x -> x.tell(2, 0, 6), x -> x.tell(2, 5, 5));
        Edge.of("55: no MARKS: ; behind by", () -> {
            ProvenRecord x = Edge.rich();
            told("tell", x, x.tell(1, 0, 1), "in 0 of 1 mark 12 head 12 by;");
        });
        Edge.of("55: TOKENS with one blank ahead, but for the first and ;", () -> {
            ProvenRecord x = Edge.rich();
            told("tell", x, x.tell(0, 2, 5), "in 2 of 5 mark 14 head 89 by 15 39 16;");
            Due.pad("the PAD stays", x, 7, 8, 9);
        });
        Edge.of("55: numbers 0, of one digit and of more: 10, 100", () -> {
            ProvenRecord x = Due.loaded("mod 101;add ao;add an;");
            int head = Due.join(101, 0, 100);
            told("0", x, x.tell(0, 1, 2), "in 1 of 2 mark 100 head " + head + " by 0;");
            told("100", x, x.tell(0, 0, 2), "in 0 of 2 mark 0 head " + head + " by 100;");
            ProvenRecord y = Due.loaded("mod 101;" + "add a;".repeat(10) + "fork 10;");
            told("10", y, y.tell(0, 9, 10), "in 9 of 10 mark 12 head " + y.head(0, 10) + " by 12 " + y.head(0, 8) + ";");
        });
        Edge.of("55: MARKS of 5 digits, in the most there may be: what is told is heard, and TAKEN", () -> {
            ProvenRecord x = Due.loaded("add zzzz;".repeat(48));
            int bytes = x.tell(0, 0, 48);
            String text = Due.out(x, bytes);
            Due.answered("TAKEN", x, x.hear(Due.feed(x, text)), 1);
        });
    }

    private static void tellGrowth() {
        Edge.refused("56: (1: m below 0, above n)", Edge::rich, 1, x -> x.tellGrowth(0, -1, 5), x -> x.tellGrowth(0, 5, 4),
            x -> x.tellGrowth(0, 0, -1), x -> x.tellGrowth(0, LEAST, 5), x -> x.tellGrowth(0, MOST, 5));
        Edge.refused("56: (2)", Edge::rich, 2, x -> x.tellGrowth(2, 0, 0), x -> x.tellGrowth(-1, 0, 0), x -> x.tellGrowth(MOST, 0, 0));
        Edge.refused("56: (5: not so many ENTRIES)", Edge::rich, 5, x -> x.tellGrowth(0, 0, 6), x -> x.tellGrowth(0, 6, 6),
            x -> x.tellGrowth(0, 0, MOST));
        Edge.refused("56: 1 ahead of 2 and 5", Edge::rich, 1, x -> x.tellGrowth(2, -1, 5), x -> x.tellGrowth(0, 7, 6));
        Edge.refused("56: 2 ahead of 5", Edge::rich, 2, x -> x.tellGrowth(2, 0, 6));
        Edge.of("56: from 0 to 0, to all; from all", () -> {
            ProvenRecord x = Edge.rich();
            told("0 to 0", x, x.tellGrowth(0, 0, 0), "grow 0 mark 0 to 0 head 0 by;");
            told("0 to 5", x, x.tellGrowth(0, 0, 5), "grow 0 mark 0 to 5 head 89 by;");
            told("5 to 5", x, x.tellGrowth(1, 5, 5), "grow 5 mark 10 to 5 head 10 by;");
            Due.pad("the PAD stays", x, 7, 8, 9);
        });
        Edge.of("56: 1 and n less 1", () -> {
            ProvenRecord x = Edge.rich();
            told("1 to 5", x, x.tellGrowth(0, 1, 5), "grow 1 mark 12 to 5 head 89 by 13 66 16;");
            told("4 to 5", x, x.tellGrowth(0, 4, 5), "grow 4 mark 44 to 5 head 89 by 16;");
            told("3 to 5", x, x.tellGrowth(0, 3, 5), "grow 3 mark 93 to 5 head 89 by 14 15 39 16;");
        });
        Edge.of("56: in the most there may be: what is told is heard, and TAKEN", () -> {
            ProvenRecord x = Due.loaded("add zzzz;".repeat(48));
            int bytes = x.tellGrowth(0, 31, 48);
            String text = Due.out(x, bytes);
            Due.answered("TAKEN", x, x.hear(Due.feed(x, text)), 1);
        });
    }

    private static void out() {
        Edge.refused("57: (1: below 0)", Edge::rich, 1, x -> x.out(-1), x -> x.out(LEAST));
        Edge.refused("57: (5): one behind the last", Edge::rich, 5, x -> x.out(29), x -> x.out(MOST));
        Edge.refused("57: (5): nothing told", Edge::fresh, 5, x -> x.out(0));
        Edge.gives("57: the first byte", Edge::rich, 'i', x -> x.out(0));
        Edge.gives("57: the last byte", Edge::rich, ';', x -> x.out(28));
        Edge.of("57: a shorter one behind a longer one", () -> {
            ProvenRecord x = Edge.rich();
            int longer = x.tellGrowth(0, 3, 5);
            Due.answered("its last", x, x.out(longer - 1), ';');
            int shorter = x.tell(0, 0, 1);
            Due.answered("its last", x, x.out(shorter - 1), ';');
            Due.refused("one behind", x, x.out(shorter), 5);
            Due.refused("where the longer one was", x, x.out(longer - 1), 5);
        });
    }

    private static void trusted() {
        Edge.refused("58: (1: size below 0)", Edge::rich, 1, x -> x.trusted(-1, 0), x -> x.trusted(LEAST, 0));
        Edge.refused("58: (1: a MARK)", Edge::rich, 1, x -> x.trusted(0, 101), x -> x.trusted(0, -1), x -> x.trusted(0, MOST));
        Edge.gives("58: all four, at first", Edge::fresh, 4, x -> x.trusted(0, 0));
        Edge.gives("58: one", Edge::rich, 1, x -> x.trusted(0, 0), x -> x.trusted(3, 93), x -> x.trusted(5, 89), x -> x.trusted(4, 66));
        Edge.gives("58: none: another size, another HEAD", Edge::rich, 0, x -> x.trusted(4, 89), x -> x.trusted(6, 89),
            x -> x.trusted(5, 88), x -> x.trusted(5, 90), x -> x.trusted(0, 1), x -> x.trusted(0, 100), x -> x.trusted(MOST, 0));
    }

    private static void saves() {
        Edge.refused("59: (1: the set below 0)", Edge::rich, 1, x -> x.saves(-1, 5), x -> x.saves(LEAST, 5), x -> x.saves(LEAST, MOST));
        Edge.refused("59: (1: the set empty)", Edge::rich, 1, x -> x.saves(0, 5), x -> x.saves(0, 0));
        Edge.refused("59: (1: one of it not below n)", Edge::rich, 1, x -> x.saves(1 << 5, 5), x -> x.saves(1 | 1 << 5, 5),
            x -> x.saves(1, 0), x -> x.saves(1, -1), x -> x.saves(1, LEAST), x -> x.saves(1 << 29, 29));
        Edge.refused("59: of things 0 to 29: bit 30 is of none below n, however many there are", Edge::rich, 1,
            x -> x.saves(1 << 30, 30), x -> x.saves(1 << 30, 31), x -> x.saves(1 << 30, MOST), x -> x.saves(1 << 30 | 1, 31),
            x -> x.saves(MOST, 31), x -> x.saves(MOST, MOST));
        Edge.gives("59: a set of one: none", Edge::fresh, 0, x -> x.saves(1, 1), x -> x.saves(1, 5), x -> x.saves(1 << 4, 5),
            x -> x.saves(1 << 29, 30), x -> x.saves(1 << 29, MOST));
        Edge.gives("59: both of two: one each, less none", Edge::fresh, 2, x -> x.saves(3, 2));
        Edge.gives("59: all of 5: 3 each of 4, and 1", Edge::fresh, 13, x -> x.saves(31, 5));
        Edge.of("59: things 0 to 29, all of 30", () -> {
            ProvenRecord x = Edge.fresh();
            Due.answered("all", x, x.saves((1 << 30) - 1, 30), stepsOfAll(30));
            Due.answered("all but the last of 31, which has 4", x, x.saves((1 << 30) - 1, 31), stepsOfAll(31) - 4 - 1);
        });
        Edge.gives("59: n as great as may be: 31 and 31, less 30", Edge::fresh, 32, x -> x.saves(3, MOST));
    }

    private static void who() {
        Edge.refused("60: (1: size below 0)", Edge::rich, 1, x -> x.who(-1, 0), x -> x.who(LEAST, 0));
        Edge.refused("60: (1: a MARK)", Edge::rich, 1, x -> x.who(0, 101), x -> x.who(0, -1), x -> x.who(0, MOST), x -> x.who(0, LEAST));
        Edge.gives("60: all that there are, of none", Edge::rich, 3, x -> x.who(0, 0), x -> x.who(3, 93));
        Edge.gives("60: all four", Edge::full, 15, x -> x.who(0, 0), x -> x.who(1, 12), x -> x.who(48, x.head(0, 48)));
        Edge.gives("60: the first, alone", Edge::rich, 1, x -> x.who(5, 89), x -> x.who(4, 44));
        Edge.gives("60: the last, alone", Edge::rich, 2, x -> x.who(5, 10), x -> x.who(4, 66));
        Edge.gives("60: none: another HEAD, another size", Edge::rich, 0, x -> x.who(0, 1), x -> x.who(5, 88), x -> x.who(4, 89),
            x -> x.who(6, 89), x -> x.who(6, 0), x -> x.who(MOST, 0));
        Edge.gives("60: none has so many as 49", Edge::full, 0, x -> x.who(49, 0), x -> x.who(49, 12));
    }
}
