/**
 * Edges that "Terms" names, parts 1, 2, 3, 5 and 6 (part 4 is in EdgesOfTextsTest). By M 101 the MARKS of a to z are 12 to
 * 37; those of ab 39, cd 66, abc 93, abcd 44, abcde 89 (HEADS); the ENTRY ao has 0, an 100, ap 1.
 */
public final class EdgesOfTermsTest {
    private static final int LEAST = Edge.LEAST;
    private static final int MOST = Edge.MOST;

    private EdgesOfTermsTest() {
    }

    public static void main(String[] args) {
        calls();
        records();
        marks();
        trees();
        inclusion();
        growth();
        verifier();
        bundles();
        peaks();
        frozen();
        watchers();
        parting();
        chains();
        acts();
        weakness();
        order();
        Edge.end();
    }

    private static void calls() {
        Edge.of("at most 512 calls: the 512th is answered like the others", () -> {
            ProvenRecord x = Edge.fresh();
            for (int k = 0; k < 510; k++) {
                x.push(k % 7);
            }
            Due.due("the 511th", x.many(2), 64);
            Due.due("the 512th", x.status(), 0);
        });
        Edge.of("nothing about an object after its 512th call: but no call throws", () -> {
            ProvenRecord x = Edge.fresh();
            int rounds = 0;
            for (int k = 0; k < 2000; k++) {
                rounds++;
                x.add(0);
                x.fork(0, 1);
                x.freeze(0);
                x.show(k % 4, 0, k % 50);
                x.push(k);
                x.feed(k, k, k, k, k);
                x.load(k % 30);
            }
            Due.due("rounds", rounds, 2000);
        });
        Edge.of("an object is by itself: what one does is not seen in another one", () -> {
            ProvenRecord x = Edge.rich();
            Edge.same("another object", Look.at(Edge.fresh()), Look.at(new ProvenRecord()));
            Due.due("RECORDS", x.many(0), 2);
        });
    }

    // ---- part 1

    private static void records() {
        Edge.of("ENTRIES, at most 48: the 48th is one, a 49th is not", () -> {
            ProvenRecord x = Edge.fresh();
            for (int k = 0; k < 48; k++) {
                Due.answered("add " + k, x, x.add(0), k);
            }
            Due.refused("a 49th", x, x.add(0), 3);
            Due.answered("ENTRIES", x, x.size(0), 48);
            Due.answered("the last one", x, x.entry(0, 47, 0), 0);
            Due.refused("none behind it", x, x.entry(0, 48, 0), 5);
        });
        Edge.of("each of 0 to 8 letters", () -> {
            for (int letters = 0; letters <= 8; letters++) {
                ProvenRecord x = Edge.fresh();
                Due.type(x, "zzzzzzzz".substring(0, letters));
                x.add(0);
                Due.answered(letters + " letters", x, x.entry(0, 0, 0), letters);
            }
        });
        Edge.of("letters a .. z: a is 1, z is 26", () -> {
            ProvenRecord x = Due.loaded("mod 101;add a;add z;");
            Due.answered("a", x, x.entry(0, 0, 2), 1);
            Due.answered("z", x, x.entry(0, 1, 2), 26);
            Due.answered("MARK of a: 1 + 3 + 1 + 7", x, x.entry(0, 0, 1), 12);
            Due.answered("MARK of z: 1 + 3 + 26 + 7", x, x.entry(0, 1, 1), 37);
        });
        Edge.of("RECORDS, at most 4: the 4th is one, a 5th is not", () -> {
            ProvenRecord x = Edge.fresh();
            for (int k = 1; k < 4; k++) {
                Due.answered("fork", x, x.fork(0, 0), k);
            }
            Due.refused("a 5th", x, x.fork(0, 0), 3);
            Due.answered("RECORDS", x, x.many(0), 4);
            Due.answered("the last one", x, x.size(3), 0);
            Due.refused("none behind it", x, x.size(4), 2);
        });
        Edge.of("0 is there at first, without ENTRIES", () -> {
            ProvenRecord x = Edge.fresh();
            Due.answered("0", x, x.size(0), 0);
            Due.refused("no other one", x, x.size(1), 2);
        });
    }

    private static void marks() {
        Edge.of("M: 101 to 65,521", () -> {
            for (int m : new int[] {101, 102, 65520, 65521}) {
                ProvenRecord x = Due.loaded("mod " + m + ";");
                Due.answered("M", x, x.many(1), m);
                Due.answered("M less 1 is a MARK", x, x.push(m - 1), 1);
                Due.refused("M is none", x, x.push(m), 1);
            }
        });
        Edge.of("M: below 101, above 65,521", () -> {
            for (int m : new int[] {0, 1, 100, 65522, 99999}) {
                ProvenRecord x = Edge.fresh();
                Due.refused("mod " + m, x, x.load(Due.feed(x, "mod " + m + ";")), 9);
                Due.due("FAULT", x.fault(0), 3);
                Due.due("at it", x.fault(1), 4);
                Due.answered("M", x, x.many(1), 65521);
            }
        });
        Edge.gives("65,521 at first", Edge::fresh, 65521, x -> x.many(1));
        // 2 with 0 is 17: 17 * 17 + 51 + 7 = 347, which is 44 by 101
        Edge.gives("the rest by M: M less 1 stays", Edge::five, 100, x -> x.join(0, 56));
        Edge.gives("the rest by M: M is 0", Edge::five, 0, x -> x.join(0, 57));
        Edge.gives("the rest by M: M and 1 is 1", Edge::five, 1, x -> x.join(0, 58));
        // 2 with 83 is 100, or less 1: 1 - 3 + 7; with 84 it is 0; with 85 it is 1: 1 + 3 + 7
        Edge.gives("the rest is taken of each mixing: 100", Edge::five, 5, x -> x.join(83, 0));
        Edge.gives("the rest is taken of each mixing: 0", Edge::five, 7, x -> x.join(84, 0));
        Edge.gives("the rest is taken of each mixing: 1", Edge::five, 11, x -> x.join(85, 0));
        // 2 with 65503 is 65520, or less 1 by 65521: 1 - 3 + 7 = 5
        Edge.gives("the greatest h times h: M less 1", Edge::fresh, 65520, x -> x.join(65503, 65515));
        Edge.gives("the greatest h times h: wraps to 0", Edge::fresh, 0, x -> x.join(65503, 65516));
        Edge.gives("the greatest h, the greatest x", Edge::fresh, 4, x -> x.join(65503, 65520));
        // 46340 * 46340 is the last square below 2^31, 46341 * 46341 the first above
        Edge.gives("h times h is no int any more: the sum", Edge::fresh, 18331, x -> x.join(46323, 0));
        Edge.gives("h times h is no int any more: the square", Edge::fresh, 45494, x -> x.join(46324, 0));
        Edge.gives("the MARK of an ENTRY without letters: 1", Edge.loaded("mod 101;add;"), 1, x -> x.entry(0, 0, 1),
            x -> x.head(0, 1));
        Edge.of("the MARK of an ENTRY: the rest is taken at each letter, up to the 8th", () -> {
            for (int m : new int[] {101, 65521}) {
                ProvenRecord x = Due.loaded("mod " + m + ";add zzzzzzzz;");
                int h = 1;
                for (int k = 0; k < 8; k++) {
                    h = Due.mix(m, h, 26);
                }
                Due.answered("zzzzzzzz by " + m, x, x.entry(0, 0, 1), h);
            }
        });
        Edge.gives("the MARK of an ENTRY may be 0", Edge.loaded("mod 101;add ao;"), 0, x -> x.entry(0, 0, 1),
            x -> x.head(0, 1));
        Edge.gives("the MARK of an ENTRY may be M less 1", Edge.loaded("mod 101;add an;"), 100, x -> x.entry(0, 0, 1));
        Edge.of("the MARK of two MARKS: the first and the second are not the same", () -> {
            ProvenRecord x = Edge.five();
            Due.answered("12, 13", x, x.join(12, 13), 39);
            Due.answered("13, 12: 900 + 90 + 12 + 7 = 1009", x, x.join(13, 12), 100);
        });
    }

    private static void trees() {
        Edge.gives("the TREE of none: the MARK is 0", Edge::five, 0, x -> x.head(0, 0));
        Edge.gives("the TREE of one: its MARK", Edge::five, 12, x -> x.head(0, 1));
        Edge.gives("the TREE of two: the MARK of both", Edge::five, 39, x -> x.head(0, 2));
        Edge.of("p: the greatest power of 2 that is less than n, not n itself", () -> {
            int[][] due = {{2, 1}, {3, 2}, {4, 2}, {5, 4}, {7, 4}, {8, 4}, {9, 8}, {16, 8}, {17, 16}, {32, 16}, {33, 32},
                {48, 32}, {64, 32}, {65, 64}, {1 << 30, 1 << 29}, {(1 << 30) + 1, 1 << 30}, {MOST, 1 << 30}};
            ProvenRecord x = Edge.fresh();
            for (int[] one : due) {
                int last = x.steps(0, one[0]) - 1;
                Due.answered("p of " + one[0], x, x.span(0, one[0], last, 0), one[1]);
                Due.answered("the others of " + one[0], x, x.span(0, one[0], last, 1), one[0] - one[1]);
            }
        });
        Edge.of("HEAD of a RECORD and a size: none of its ENTRIES, all of them", () -> {
            ProvenRecord x = Edge.full();
            int[] row = new int[48];
            java.util.Arrays.fill(row, 12);
            Due.answered("none", x, x.head(3, 0), 0);
            Due.answered("all but one", x, x.head(3, 47), treeOf(row, 0, 47));
            Due.answered("all", x, x.head(3, 48), treeOf(row, 0, 48));
        });
    }

    private static int treeOf(int[] marks, int first, int many) {
        if (many == 1) {
            return marks[first];
        }
        int p = 1;
        while (2 * p < many) {
            p *= 2;
        }
        return Due.join(101, treeOf(marks, first, p), treeOf(marks, first + p, many - p));
    }

    // ---- part 2

    private static void inclusion() {
        Edge.of("INCLUSION of one thing: no MARK", () -> {
            ProvenRecord x = Edge.five();
            Due.answered("include", x, x.include(0, 0, 1), 0);
            Due.pad("none", x);
        });
        Edge.of("i lies in the first p: the last of these, p less 1", () -> {
            ProvenRecord x = Edge.five();
            Due.answered("3 of 5", x, x.include(0, 3, 5), 3);
            Due.pad("c, ab, e", x, 14, 39, 16);
        });
        Edge.of("else that in the others: the first of these, p", () -> {
            ProvenRecord x = Edge.five();
            Due.answered("4 of 5", x, x.include(0, 4, 5), 1);
            Due.pad("abcd", x, 44);
        });
        Edge.of("of two: the first, the last", () -> {
            ProvenRecord x = Edge.five();
            x.include(0, 0, 2);
            Due.pad("b", x, 13);
            x.include(0, 1, 2);
            Due.pad("a", x, 12);
        });
    }

    private static void growth() {
        Edge.of("GROWTH: without MARKS, if m is 0", () -> {
            ProvenRecord x = Edge.rich();
            Due.answered("0 to 5", x, x.grow(0, 0, 5), 0);
            Due.pad("none", x);
        });
        Edge.of("GROWTH: without MARKS, if m is n", () -> {
            ProvenRecord x = Edge.rich();
            Due.answered("5 to 5", x, x.grow(0, 5, 5), 0);
            Due.pad("none", x);
        });
        Edge.of("GROWTH: without MARKS, if both are 0", () -> {
            ProvenRecord x = Edge.rich();
            Due.answered("0 to 0", x, x.grow(0, 0, 0), 0);
            Due.pad("none", x);
        });
        Edge.of("m no more than p: m being p; whole, so these have no MARK", () -> {
            ProvenRecord x = Edge.five();
            Due.answered("4 to 5", x, x.grow(0, 4, 5), 1);
            Due.pad("e", x, 16);
            Due.answered("2 to 4", x, x.grow(0, 2, 4), 1);
            Due.pad("cd", x, 66);
        });
        Edge.of("m no more than p: p less 1; not whole, so these have one", () -> {
            ProvenRecord x = Edge.five();
            Due.answered("3 to 5", x, x.grow(0, 3, 5), 4);
            Due.pad("c, d, ab, e", x, 14, 15, 39, 16);
        });
        Edge.of("m more than p: p and 1", () -> {
            ProvenRecord x = Due.loaded(Edge.FIVE + "add f;");
            Due.answered("5 to 6", x, x.grow(0, 5, 6), 3);
            Due.pad("e, f, abcd", x, 16, 17, 44);
        });
        Edge.of("m being 1, the least that has MARKS, and n less 1", () -> {
            ProvenRecord x = Edge.five();
            Due.answered("1 to 2", x, x.grow(0, 1, 2), 1);
            Due.pad("b", x, 13);
            Due.answered("1 to 5", x, x.grow(0, 1, 5), 3);
            Due.pad("b, cd, e", x, 13, 66, 16);
            Due.answered("3 to 4", x, x.grow(0, 3, 4), 3);
            Due.pad("c, d, ab", x, 14, 15, 39);
        });
    }

    private static void verifier() {
        Edge.of("WHY 1 ahead of 3, 2 ahead of 3: INCLUSION of a wrong HEAD", () -> {
            ProvenRecord x = Edge.five();
            Due.setPad(x, 15, 39);
            Due.answered("one too few", x, x.checks(14, 2, 5, 88), 1);
            x.push(16);
            Due.answered("just so many, another HEAD", x, x.checks(14, 2, 5, 88), 3);
            Due.answered("just so many", x, x.checks(14, 2, 5, 89), 0);
            x.push(0);
            Due.answered("one too many", x, x.checks(14, 2, 5, 88), 2);
        });
        Edge.of("WHY 1 ahead of 3, 2 ahead of 3, 3 ahead of 4: GROWTH of wrong HEADS", () -> {
            ProvenRecord x = Edge.five();
            Due.setPad(x, 14, 15, 39);
            Due.answered("one too few", x, x.growth(3, 92, 5, 88), 1);
            x.push(16);
            Due.answered("both are others", x, x.growth(3, 92, 5, 88), 3);
            Due.answered("the newer one is", x, x.growth(3, 93, 5, 88), 4);
            Due.answered("neither", x, x.growth(3, 93, 5, 89), 0);
            x.push(0);
            Due.answered("one too many", x, x.growth(3, 92, 5, 88), 2);
        });
        Edge.of("GROWTH: m being 0: than 0", () -> {
            ProvenRecord x = Edge.five();
            Due.answered("0", x, x.growth(0, 0, 1, 50), 0);
            Due.answered("1", x, x.growth(0, 1, 1, 50), 3);
            Due.answered("M less 1", x, x.growth(0, 100, 1, 50), 3);
        });
        Edge.of("GROWTH: m being n: than the newer one", () -> {
            ProvenRecord x = Edge.five();
            Due.answered("alike", x, x.growth(1, 50, 1, 50), 0);
            Due.answered("one more", x, x.growth(1, 50, 1, 51), 3);
            Due.answered("one less", x, x.growth(1, 50, 1, 49), 3);
        });
        Edge.of("GROWTH: m being 0 and n, too", () -> {
            ProvenRecord x = Edge.five();
            Due.answered("both 0", x, x.growth(0, 0, 0, 0), 0);
            Due.answered("both 1", x, x.growth(0, 1, 0, 1), 3);
            Due.answered("the older one is 1", x, x.growth(0, 1, 0, 0), 3);
            Due.answered("the newer one is 1", x, x.growth(0, 0, 0, 1), 3);
        });
        Edge.of("GROWTH without MARKS: one MARK is too many", () -> {
            ProvenRecord x = Edge.five();
            x.push(0);
            Due.answered("m being 0", x, x.growth(0, 0, 5, 89), 2);
            Due.answered("m being n", x, x.growth(5, 89, 5, 89), 2);
            Due.answered("m being 0, another HEAD", x, x.growth(0, 1, 5, 89), 2);
            Due.answered("0 to 0", x, x.growth(0, 0, 0, 0), 2);
        });
        Edge.of("m being 0, and n not, any newer HEAD is TAKEN: 0, M less 1", () -> {
            ProvenRecord x = Edge.five();
            Due.answered("0", x, x.growth(0, 0, 1, 0), 0);
            Due.answered("M less 1", x, x.growth(0, 0, 5, 100), 0);
            Due.answered("n as great as may be", x, x.growth(0, 0, MOST, 77), 0);
        });
        Edge.of("whole ones have no MARK of their own: there the older HEAD itself is folded, so it is never 3", () -> {
            ProvenRecord x = Edge.five();
            x.push(16);
            Due.answered("the older one", x, x.growth(4, 44, 5, 89), 0);
            Due.answered("another one", x, x.growth(4, 43, 5, 89), 4);
            Due.answered("both others", x, x.growth(4, 43, 5, Due.join(101, 43, 16)), 0);
        });
    }

    private static void bundles() {
        Edge.of("a BUNDLE of all: no MARK", () -> {
            ProvenRecord x = Edge.rich();
            Due.answered("all of 5", x, x.bundle(0, 31, 5), 0);
            Due.pad("none", x);
            Due.answered("one of 1", x, x.bundle(0, 1, 1), 0);
        });
        Edge.of("a BUNDLE of one: MARKS of INCLUSION, but from the left to the right", () -> {
            ProvenRecord x = Edge.five();
            Due.answered("2 of 5", x, x.bundle(0, 4, 5), 3);
            Due.pad("ab, d, e", x, 39, 15, 16);
        });
        Edge.of("the greatest TREES that have none of the set: all but the last, all but the first", () -> {
            ProvenRecord x = Edge.five();
            Due.answered("4 of 5", x, x.bundle(0, 16, 5), 1);
            Due.pad("abcd", x, 44);
            Due.answered("1 to 4 of 5", x, x.bundle(0, 30, 5), 1);
            Due.pad("a", x, 12);
            Due.answered("0 to 3 of 5", x, x.bundle(0, 15, 5), 1);
            Due.pad("e", x, 16);
        });
        Edge.of("of ENTRIES 0 to 29: the last", () -> {
            ProvenRecord x = Due.loaded("mod 101;" + "add a;".repeat(30));
            Due.answered("29 of 30", x, x.bundle(0, 1 << 29, 30), 4);
            Due.answered("0 to 29 of 30", x, x.bundle(0, (1 << 30) - 1, 30), 0);
        });
    }

    private static void peaks() {
        Edge.of("PEAKS of none, of a power of 2, of one less, of one more", () -> {
            ProvenRecord x = Edge.rich();
            Due.answered("0", x, x.peaks(0, 0), 0);
            Due.pad("none", x);
            Due.answered("1", x, x.peaks(0, 1), 1);
            Due.pad("a", x, 12);
            Due.answered("3", x, x.peaks(0, 3), 2);
            Due.pad("the greatest first", x, 39, 14);
            Due.answered("4", x, x.peaks(0, 4), 1);
            Due.pad("abcd", x, 44);
            Due.answered("5", x, x.peaks(0, 5), 2);
            Due.pad("abcd, e", x, 44, 16);
        });
        Edge.of("PEAKS of 31, 32, 47, 48", () -> {
            ProvenRecord x = Edge.full();
            Due.answered("31", x, x.peaks(0, 31), 5);
            Due.answered("32", x, x.peaks(0, 32), 1);
            Due.answered("47", x, x.peaks(0, 47), 5);
            Due.answered("48", x, x.peaks(0, 48), 2);
            Due.answered("HEAD is folded from PEAKS", x, x.fold(), x.head(0, 48));
        });
        Edge.of("HEAD is folded from PEAKS: of none, of one, of two, of three", () -> {
            ProvenRecord x = Due.loaded(Edge.FIVE + "add f;add g;");
            for (int n : new int[] {0, 1, 3, 7}) {
                x.peaks(0, n);
                Due.answered("fold of " + n, x, x.fold(), x.head(0, n));
            }
        });
    }

    // ---- part 3

    private static void frozen() {
        Edge.of("FROZEN: at most 16 HEADS", () -> {
            ProvenRecord x = Edge.fresh();
            for (int k = 0; k < 16; k++) {
                Due.answered("freeze", x, x.freeze(0), k);
            }
            Due.refused("a 17th", x, x.freeze(0), 3);
            Due.answered("FROZEN", x, x.many(3), 16);
            Due.answered("the last one", x, x.frozen(15, 1), 0);
            Due.refused("none behind it", x, x.frozen(16, 1), 5);
        });
        Edge.of("TICK: how many ACTS there were ahead: none; its own is not one", () -> {
            ProvenRecord x = Edge.fresh();
            x.freeze(0);
            x.freeze(0);
            Due.answered("none ahead", x, x.frozen(0, 3), 0);
            Due.answered("one ahead", x, x.frozen(1, 3), 1);
        });
        Edge.of("MARK as it was; SOUND, if that is the HEAD of its RECORD and size still", () -> {
            ProvenRecord x = Due.loaded("mod 101;freeze;add a;freeze;add b;");
            Due.answered("of none", x, x.frozen(0, 4), 1);
            x.spoil(0, 1, 0, 26);
            Due.answered("the first behind its size is another one", x, x.frozen(1, 4), 1);
            x.spoil(0, 0, 0, 26);
            Due.answered("the last of its size is", x, x.frozen(1, 4), 0);
            Due.answered("of none, always", x, x.frozen(0, 4), 1);
            Due.answered("MARK as it was", x, x.frozen(1, 2), 12);
        });
        Edge.of("SICK PEAKS: none of a HEAD of none; the first, the last, all of 31", () -> {
            ProvenRecord x = Due.loaded("mod 101;freeze;" + "add a;".repeat(31) + "freeze;");
            Due.answered("of none", x, x.sick(0), 0);
            Due.answered("none of 5", x, x.sick(1), 0);
            int[] firsts = {30, 28, 24, 16, 0};
            int bits = 0;
            for (int k = 4; k >= 0; k--) {
                x.spoil(0, firsts[4 - k], 0, 2);
                bits |= 1 << k;
                Due.answered("from " + k + " on", x, x.sick(1), bits);
            }
            Due.answered("of none", x, x.sick(0), 0);
        });
        Edge.of("SICK: at the edge of two PEAKS", () -> {
            ProvenRecord x = Due.loaded("mod 101;add a;add a;add a;freeze;");
            x.spoil(0, 2, 0, 2);
            Due.answered("the first of the last", x, x.sick(0), 2);
            x.spoil(0, 2, 0, 1);
            x.spoil(0, 1, 0, 2);
            Due.answered("the last of the first", x, x.sick(0), 1);
        });
    }

    private static void watchers() {
        Edge.of("WATCHERS 0 to 3", () -> {
            ProvenRecord x = Edge.fresh();
            Due.answered("0", x, x.watcher(0, 0), 0);
            Due.answered("3", x, x.watcher(3, 0), 0);
            Due.refused("4", x, x.watcher(4, 0), 2);
            Due.refused("-1", x, x.watcher(-1, 0), 2);
        });
        Edge.of("TRUST 0 and 0 at first", () -> {
            ProvenRecord x = Edge.five();
            for (int w = 0; w < 4; w++) {
                Due.answered("size", x, x.watcher(w, 0), 0);
                Due.answered("HEAD", x, x.watcher(w, 1), 0);
                Due.answered("ALARMED", x, x.watcher(w, 2), 0);
                Due.answered("SHOWN", x, x.watcher(w, 3), 0);
            }
        });
    }

    private static void parting() {
        Edge.of("two RECORDS PART at an ENTRY that only one has: none and one, 47 and 48", () -> {
            ProvenRecord x = Due.loaded("add a;fork 0;");
            Due.answered("none and one", x, x.part(0, 1, 0), 0);
            Due.answered("HEADS alike", x, x.part(0, 1, 1), 0);
            ProvenRecord y = Due.loaded("add a;".repeat(48) + "fork 47;");
            Due.answered("47 and 48", y, y.part(0, 1, 0), 47);
            Due.answered("48 and 47", y, y.part(1, 0, 0), 47);
        });
        Edge.of("two RECORDS that are ALIKE: without ENTRIES, of one, of 48, one RECORD itself", () -> {
            ProvenRecord x = Due.loaded("fork 0;");
            Due.answered("without ENTRIES", x, x.part(0, 1, 0), -1);
            ProvenRecord y = Due.loaded("add a;fork 1;");
            Due.answered("of one", y, y.part(0, 1, 0), -1);
            Due.answered("one itself", y, y.part(1, 1, 0), -1);
            ProvenRecord z = Edge.full();
            Due.answered("of 48", z, z.part(0, 3, 0), -1);
        });
        Edge.of("two RECORDS PART at the first ENTRY, at the last one", () -> {
            ProvenRecord x = Edge.full();
            x.spoil(1, 47, 0, 2);
            Due.answered("the last of 48", x, x.part(0, 1, 0), 47);
            Due.answered("COMPARED: 32, 8, 4, 2, 1", x, x.part(0, 1, 1), 5);
            x.spoil(2, 0, 0, 2);
            Due.answered("the first of 48", x, x.part(2, 0, 0), 0);
            Due.answered("COMPARED: 32, 16, 8, 4, 2, 1", x, x.part(2, 0, 1), 6);
        });
        Edge.of("till one ENTRY is left: one alone, none is COMPARED", () -> {
            ProvenRecord x = Due.loaded("add a;fork 0;add b;");
            Due.answered("at 0", x, x.part(0, 1, 0), 0);
            Due.answered("none COMPARED", x, x.part(0, 1, 1), 0);
        });
        Edge.of("both parts are unlike: on in the first", () -> {
            ProvenRecord x = Due.loaded("add a;add b;fork 0;add c;add d;");
            Due.answered("at 0", x, x.part(0, 1, 0), 0);
            Due.answered("one COMPARED", x, x.part(0, 1, 1), 1);
        });
    }

    private static void chains() {
        Edge.of("CHAIN of none, of one", () -> {
            ProvenRecord x = Due.loaded("add a;fork 1;freeze;");
            for (int what = 0; what < 3; what++) {
                Due.answered("none", x, x.chain(0, what), 0);
                Due.answered("one", x, x.chain(1, what), what == 0 ? 1 : 0);
            }
        });
        Edge.of("CHAIN: those of one size once, even when another MARK was FROZEN", () -> {
            ProvenRecord x = Due.loaded("add a;freeze;freeze;");
            x.spoil(0, 0, 0, 2);
            x.freeze(0);
            Due.answered("HEADS", x, x.chain(0, 0), 1);
            Due.answered("MARKS", x, x.chain(0, 1), 0);
        });
        Edge.of("CHAIN from none on: GROWTH from 0 has no MARKS", () -> {
            ProvenRecord x = Due.loaded("freeze;add;freeze;add;freeze;");
            Due.answered("HEADS", x, x.chain(0, 0), 3);
            Due.answered("MARKS: b", x, x.chain(0, 1), 1);
            Due.answered("LINKS", x, x.chain(0, 2), 1);
        });
        Edge.of("LINKS: each once", () -> {
            ProvenRecord x = Due.loaded("add;add;add;freeze;add;freeze;add;add;add;freeze;");
            // 3 to 4: c, d, ab; 4 to 7: efg
            Due.answered("MARKS", x, x.chain(0, 1), 4);
            Due.answered("LINKS", x, x.chain(0, 2), 4);
            ProvenRecord y = Due.loaded("add;add;add;freeze;add;add;freeze;add;freeze;");
            // 3 to 5: c, d, ab, e; 5 to 6: e, f, abcd
            Due.answered("MARKS", y, y.chain(0, 1), 7);
            Due.answered("LINKS: e once", y, y.chain(0, 2), 6);
        });
        Edge.of("LINKS: from which ENTRY to which: one first ENTRY, unlike ends, are two", () -> {
            ProvenRecord x = Due.loaded("add;freeze;add;add;freeze;add;add;add;add;freeze;");
            // 1 to 3: b, c; 3 to 7: c, d, ab, efg
            Due.answered("MARKS", x, x.chain(0, 1), 6);
            Due.answered("LINKS: c once", x, x.chain(0, 2), 5);
            ProvenRecord y = Due.loaded("add;add;freeze;add;freeze;add;add;freeze;add;add;add;freeze;");
            // 2 to 3: c; 3 to 5: c, d, ab, e; 5 to 8: e, f, gh, abcd
            Due.answered("MARKS", y, y.chain(0, 1), 9);
            Due.answered("LINKS: c, e once", y, y.chain(0, 2), 7);
        });
        Edge.of("CHAIN of 16 HEADS, the most there may be, by sizes, not as they came", () -> {
            ProvenRecord x = Due.loaded("add;freeze;".repeat(16) + "add;".repeat(32));
            Due.answered("HEADS", x, x.chain(0, 0), 16);
            int marks = 0;
            for (int m = 1; m < 16; m++) {
                marks += x.climbs(m, m + 1);
            }
            Due.answered("MARKS", x, x.chain(0, 1), marks);
        });
    }

    private static void acts() {
        Edge.of("ACTS: add(), fork(), freeze(), show(), meet(), spoil() with STATUS 0, one each", () -> {
            ProvenRecord x = Due.loaded("add a;add b;");
            Edge.Call[] acts = {y -> y.add(0), y -> y.fork(0, 0), y -> y.freeze(0), y -> y.show(0, 0, 2),
                y -> y.meet(0, 1, 0), y -> y.spoil(0, 0, 0, 2)};
            for (int k = 0; k < acts.length; k++) {
                acts[k].on(x);
                Due.due("status()", x.status(), 0);
                Due.answered("ACTS", x, x.many(4), 3 + k);
            }
        });
        Edge.of("ACTS: show(), meet() with WHY 3, 4, 5 are ones, too", () -> {
            ProvenRecord x = Edge.rich();
            Due.answered("WHY 3", x, x.show(1, 1, 5), 3);
            Due.answered("WHY 4", x, x.show(1, 1, 3), 4);
            Due.answered("ACTS", x, x.many(4), 17);
            x.fork(0, 0);
            Due.answered("WHY 5", x, x.show(0, 2, 0), 5);
            Due.answered("WHY 5", x, x.meet(0, 1, 2), 5);
            Due.answered("ACTS", x, x.many(4), 20);
        });
        Edge.leaves("what is asked changes nothing", Edge::rich, x -> x.many(0), x -> x.size(0), x -> x.entry(0, 0, 2),
            x -> x.head(0, 5), x -> x.join(1, 2), x -> x.mark(), x -> x.frozen(0, 4), x -> x.watcher(0, 0), x -> x.pad(0),
            x -> x.heard(0), x -> x.out(0));
        Edge.leaves("what the VERIFIER is asked changes nothing", Edge::rich, x -> x.checks(14, 2, 5, 89),
            x -> x.checks(14, 0, 1, 14), x -> x.growth(2, 39, 5, 89), x -> x.bundled(5, 5, 89), x -> x.fold(),
            x -> x.steps(2, 5), x -> x.climbs(2, 5));
        Edge.leaves("who was shown what is asked and changes nothing", Edge::rich, x -> x.agree(0, 1), x -> x.where(0, 1),
            x -> x.tree(0, 5, 2, 2), x -> x.proves(0, 1), x -> x.longest(9, 2), x -> x.part(0, 1, 0), x -> x.blame(0, 2),
            x -> x.sick(0), x -> x.chain(0, 2), x -> x.split(0), x -> x.trusted(5, 89), x -> x.saves(5, 5),
            x -> x.who(5, 89));
        Edge.leaves("what is weak is asked and changes nothing", Edge::rich, x -> x.weak(0, 0, 2, 0),
            x -> x.forge(14, 2, 5, 89, 2), x -> x.trace(14, 2, 5, 3), x -> x.span(2, 5, 0, 0), x -> x.rise(2, 5, 0, 0),
            x -> x.kept(2, 5, 9));
    }

    // ---- part 5

    private static void weakness() {
        // by M 101 two first MARKS join alike if together they are 64 (or 165)
        Edge.of("WEAK: a MARK x, 0 to M less 1: 0 is one", () -> {
            ProvenRecord x = Due.loaded("mod 101;add cu;add b;");
            Due.answered("MARK", x, x.entry(0, 0, 1), 64);
            Due.answered("how many", x, x.weak(0, 0, 2, 0), 1);
            Due.answered("the least", x, x.weak(0, 0, 2, 1), 0);
        });
        Edge.of("WEAK: a MARK x, 0 to M less 1: M less 1 is one", () -> {
            ProvenRecord x = Due.loaded("mod 101;add cv;add b;");
            Due.answered("MARK", x, x.entry(0, 0, 1), 65);
            Due.answered("how many", x, x.weak(0, 0, 2, 0), 1);
            Due.answered("the least", x, x.weak(0, 0, 2, 1), 100);
        });
        Edge.of("WEAK: other than that of an ENTRY: 32 and 32 are 64", () -> {
            ProvenRecord x = Due.loaded("mod 101;add u;add b;");
            Due.answered("MARK", x, x.entry(0, 0, 1), 32);
            Due.answered("how many", x, x.weak(0, 0, 2, 0), 0);
            Due.refused("the least", x, x.weak(0, 0, 2, 1), 5);
        });
        Edge.of("a CLASH at the first STEP, 0, and at the last", () -> {
            ProvenRecord x = Edge.five();
            Due.setPad(x, 13, 66, 16);
            Due.answered("12 and 52 are 64", x, x.clash(0, 0, 5, 52, 0), 0);
            // 44 and 20 are 64, so 20 with 16 is 89, too; 39 with what is 20: 56 * 59 + x + 7 = 3311 + x, which is 79 + x
            Due.setPad(x, 13, 42, 16);
            Due.answered("39 with 42", x, x.join(39, 42), 20);
            Due.answered("20 with 16", x, x.join(20, 16), 89);
            int[] due = {2, 44, 16, 20, 16};
            for (int what = 0; what < 5; what++) {
                Due.answered("clash " + what, x, x.clash(0, 0, 5, 12, what), due[what]);
            }
        });
        Edge.of("not one in all: two MARKS of the PAD are others, the MARK is the same", () -> {
            ProvenRecord x = Due.loaded("mod 101;add cu;add b;fork 1;");
            x.include(0, 1, 2);
            Due.pad("64", x, 64);
            Due.refused("one in all", x, x.clash(0, 1, 2, 13, 0), 5);
            x.poke(0, 0);
            int[] due = {0, 64, 13, 0, 13};
            for (int what = 0; what < 5; what++) {
                Due.answered("clash " + what, x, x.clash(0, 1, 2, 13, what), due[what]);
            }
        });
    }

    // ---- part 6

    private static void order() {
        Edge.of("status(), feed(), fault(), type() have none: that of the call ahead stays", () -> {
            for (int status : new int[] {0, 1, 2, 3, 5, 9}) {
                ProvenRecord x = Edge.full();
                Edge.Call[] by = {y -> y.size(0), y -> y.many(6), y -> y.size(4), y -> y.add(0), null, y -> y.heard(0), null,
                    null, null, y -> y.load(900)};
                if (status == 9) {
                    x.load(0);
                    Due.feed(x, "!" + " ".repeat(899));
                }
                by[status].on(x);
                Due.due("status()", x.status(), status);
                Due.due("once more", x.status(), status);
                x.feed(0, 0, 0, 0, 0);
                x.feed(LEAST, MOST, -1, 1, 0);
                x.fault(0);
                x.fault(1);
                x.fault(2);
                x.fault(-1);
                x.type(1, 0);
                x.type(27, 0);
                x.type(0, 0);
                Due.due("behind them", x.status(), status);
            }
        });
        Edge.refused("1 ahead of 2", Edge::rich, 1, x -> x.head(2, -1), x -> x.entry(2, -1, 0), x -> x.fork(2, -1),
            x -> x.show(4, 2, -1), x -> x.watcher(4, 4), x -> x.where(2, 2), x -> x.tree(2, 5, -1, 0), x -> x.part(2, 2, 2),
            x -> x.blame(2, 3), x -> x.chain(2, 3));
        Edge.refused("1 ahead of 3", Edge::full, 1, x -> x.fork(0, -1), x -> x.push(101), x -> x.push(-1));
        Edge.refused("1 ahead of 5", Edge::rich, 1, x -> x.entry(0, 5, -1), x -> x.frozen(3, 5), x -> x.poke(3, 101),
            x -> x.include(0, 9, -1), x -> x.weak(0, 5, 5, 2), x -> x.clash(0, 5, 5, 101, 0), x -> x.proves(-1, 9));
        Edge.refused("2 ahead of 3", Edge::full, 2, x -> x.add(4), x -> x.fork(4, 0), x -> x.freeze(4));
        Edge.refused("2 ahead of 5", Edge::rich, 2, x -> x.entry(2, 9, 0), x -> x.head(2, 99), x -> x.fork(2, 99),
            x -> x.show(0, 2, 99), x -> x.include(2, 9, 9), x -> x.grow(2, 9, 9), x -> x.bundle(2, 1, 0),
            x -> x.peaks(2, 99), x -> x.tree(2, 99, 0, 0));
        Edge.refused("3 ahead of 5", Edge::full, 3, x -> x.fork(0, 49));
        Edge.refused("1 ahead of 9: the tape has not so many", Edge::rich, 1, x -> x.load(21), x -> x.hear(21));
    }
}
