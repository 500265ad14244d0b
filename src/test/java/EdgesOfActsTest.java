/** Edges of promises 9 to 22: what there is, and ACTS. What the objects have stands at Edge.rich() and Edge.full(). */
public final class EdgesOfActsTest {
    private static final int LEAST = Edge.LEAST;
    private static final int MOST = Edge.MOST;

    private EdgesOfActsTest() {
    }

    public static void main(String[] args) {
        many();
        size();
        entry();
        head();
        join();
        mark();
        frozen();
        watcher();
        add();
        fork();
        freeze();
        show();
        showOfWhatIsLarger();
        meet();
        spoil();
        Edge.end();
    }

    private static void many() {
        Edge.of("9: what 0 to 5, of an object that has some of all", () -> {
            ProvenRecord x = Edge.rich();
            int[] due = {2, 101, 3, 3, 15, 2};
            for (int what = 0; what < 6; what++) {
                Due.answered("many " + what, x, x.many(what), due[what]);
            }
        });
        Edge.of("9: what 0 to 5, of a full object", () -> {
            ProvenRecord x = Edge.full();
            int[] due = {4, 101, 64, 16, 68, 0};
            for (int what = 0; what < 6; what++) {
                Due.answered("many " + what, x, x.many(what), due[what]);
            }
        });
        Edge.refused("9: (1): what below 0, above 5", Edge::rich, 1, x -> x.many(-1), x -> x.many(6), x -> x.many(LEAST),
            x -> x.many(MOST));
        Edge.of("9: WATCHERS that are ALARMED, as bits: none, each, all", () -> {
            ProvenRecord x = Due.loaded("add a;show 0 1;show 1 1;show 2 1;show 3 1;fork 0;add b;");
            int bits = 0;
            Due.answered("none", x, x.many(5), 0);
            for (int w = 3; w >= 0; w--) {
                x.show(w, 1, 1);
                bits |= 1 << w;
                Due.answered("from " + w + " on", x, x.many(5), bits);
            }
        });
    }

    private static void size() {
        Edge.gives("10: of the first RECORD, of the last", Edge::rich, 5, x -> x.size(0), x -> x.size(1));
        Edge.gives("10: the most", Edge::full, 48, x -> x.size(0), x -> x.size(3));
        Edge.refused("10: (2): one behind the last, below 0", Edge::rich, 2, x -> x.size(2), x -> x.size(3), x -> x.size(-1),
            x -> x.size(LEAST), x -> x.size(MOST));
        Edge.refused("10: (2): a 5th", Edge::full, 2, x -> x.size(4));
    }

    private static void entry() {
        Edge.gives("11: how many letters: none", Edge.loaded("add;"), 0, x -> x.entry(0, 0, 0));
        Edge.gives("11: how many letters: 8", Edge.loaded("add abcdefgz;"), 8, x -> x.entry(0, 0, 0));
        Edge.gives("11: its letters: the first", Edge.loaded("add abcdefgz;"), 1, x -> x.entry(0, 0, 2));
        Edge.gives("11: its letters: the last", Edge.loaded("add abcdefgz;"), 26, x -> x.entry(0, 0, 9));
        Edge.gives("11: the first ENTRY of a RECORD", Edge::rich, 12, x -> x.entry(0, 0, 1), x -> x.entry(1, 0, 1));
        Edge.gives("11: the last ENTRY of a RECORD", Edge::rich, 36, x -> x.entry(1, 4, 1));
        Edge.refused("11: (1): i below 0", Edge::rich, 1, x -> x.entry(0, -1, 0), x -> x.entry(0, LEAST, 1));
        Edge.refused("11: (1): what below 0", Edge::rich, 1, x -> x.entry(0, 0, -1), x -> x.entry(0, 0, LEAST));
        Edge.refused("11: (2)", Edge::rich, 2, x -> x.entry(2, 0, 0), x -> x.entry(-1, 0, 0), x -> x.entry(LEAST, 0, 0),
            x -> x.entry(MOST, 0, 0));
        Edge.refused("11: (5): no such ENTRY", Edge::rich, 5, x -> x.entry(0, 5, 0), x -> x.entry(1, 5, 1),
            x -> x.entry(0, MOST, 0));
        Edge.refused("11: (5): no such ENTRY, none there", Edge::fresh, 5, x -> x.entry(0, 0, 0));
        Edge.refused("11: (5): no such letter", Edge::rich, 5, x -> x.entry(0, 0, 3), x -> x.entry(0, 0, MOST));
        Edge.refused("11: (5): no such letter of none, of 8", Edge.loaded("add;add abcdefgz;"), 5, x -> x.entry(0, 0, 2),
            x -> x.entry(0, 1, 10));
        Edge.refused("11: 1 ahead of 2 and 5", Edge::rich, 1, x -> x.entry(2, -1, 0), x -> x.entry(2, 9, -1),
            x -> x.entry(0, 9, -1));
        Edge.refused("11: 2 ahead of 5", Edge::rich, 2, x -> x.entry(2, 9, 99));
    }

    private static void head() {
        Edge.gives("12: of none", Edge::rich, 0, x -> x.head(0, 0), x -> x.head(1, 0));
        Edge.gives("12: of all", Edge::rich, 89, x -> x.head(0, 5));
        Edge.gives("12: of all, of the last RECORD", Edge::rich, 10, x -> x.head(1, 5));
        Edge.refused("12: (1: size below 0)", Edge::rich, 1, x -> x.head(0, -1), x -> x.head(0, LEAST), x -> x.head(2, -1));
        Edge.refused("12: (2)", Edge::rich, 2, x -> x.head(2, 0), x -> x.head(-1, 0), x -> x.head(2, 6), x -> x.head(MOST, 0));
        Edge.refused("12: (5): one more than it has", Edge::rich, 5, x -> x.head(0, 6), x -> x.head(0, MOST));
        Edge.refused("12: (5): one more than the most", Edge::full, 5, x -> x.head(3, 49));
    }

    private static void join() {
        Edge.gives("13: 0 and 0: 289 + 51 + 7", Edge::rich, 44, x -> x.join(0, 0));
        Edge.gives("13: M less 1, both: 256 + 48 + 100 + 7", Edge::rich, 7, x -> x.join(100, 100));
        Edge.refused("13: (1: a MARK is 0 to M less 1): M", Edge::rich, 1, x -> x.join(101, 0), x -> x.join(0, 101),
            x -> x.join(MOST, 0), x -> x.join(0, MOST));
        Edge.refused("13: (1: a MARK is 0 to M less 1): -1", Edge::rich, 1, x -> x.join(-1, 0), x -> x.join(0, -1),
            x -> x.join(LEAST, 0), x -> x.join(0, LEAST));
        Edge.gives("13: by M 65,521", Edge::fresh, 4, x -> x.join(65503, 65520));
        Edge.refused("13: by M 65,521: M", Edge::fresh, 1, x -> x.join(65521, 0), x -> x.join(0, 65521));
    }

    private static void mark() {
        Edge.gives("14: of no word", Edge::fresh, 1, x -> x.mark());
        Edge.of("14: of a word without letters behind one with some", () -> {
            ProvenRecord x = Edge.rich();
            x.type(0, 0);
            Due.answered("mark", x, x.mark(), 1);
        });
        Edge.of("14: of a word of 8 letters, as of an ENTRY", () -> {
            ProvenRecord x = Edge.full();
            int mark = x.mark();
            int h = 1;
            for (int k = 1; k <= 8; k++) {
                h = Due.mix(101, h, k);
            }
            Due.due("abcdefgh", mark, h);
        });
    }

    private static void frozen() {
        Edge.of("15: what 0 to 4, of the first and the last", () -> {
            ProvenRecord x = Edge.rich();
            int[][] due = {{0, 3, 93, 3, 1}, {0, 5, 89, 6, 1}, {1, 5, 10, 12, 1}};
            for (int i = 0; i < 3; i++) {
                for (int what = 0; what < 5; what++) {
                    Due.answered("frozen " + i + " " + what, x, x.frozen(i, what), due[i][what]);
                }
            }
        });
        Edge.refused("15: (1): what below 0, above 4", Edge::rich, 1, x -> x.frozen(0, -1), x -> x.frozen(0, 5),
            x -> x.frozen(0, LEAST), x -> x.frozen(0, MOST));
        Edge.refused("15: (1: i below 0)", Edge::rich, 1, x -> x.frozen(-1, 0), x -> x.frozen(LEAST, 4));
        Edge.refused("15: (5)", Edge::rich, 5, x -> x.frozen(3, 0), x -> x.frozen(15, 0), x -> x.frozen(16, 0),
            x -> x.frozen(MOST, 0));
        Edge.refused("15: (5): one more than the most", Edge::full, 5, x -> x.frozen(16, 0));
        Edge.refused("15: 1 ahead of 5", Edge::rich, 1, x -> x.frozen(3, 5), x -> x.frozen(3, -1));
    }

    private static void watcher() {
        Edge.of("16: what 0 to 3, of the first and the last", () -> {
            ProvenRecord x = Edge.rich();
            int[][] due = {{3, 93, 0, 1}, {5, 89, 1, 2}, {4, 66, 0, 1}, {0, 0, 0, 0}};
            for (int w = 0; w < 4; w++) {
                for (int what = 0; what < 4; what++) {
                    Due.answered("watcher " + w + " " + what, x, x.watcher(w, what), due[w][what]);
                }
            }
        });
        Edge.refused("16: (1): what below 0, above 3", Edge::rich, 1, x -> x.watcher(0, -1), x -> x.watcher(0, 4),
            x -> x.watcher(0, LEAST), x -> x.watcher(0, MOST));
        Edge.refused("16: (2)", Edge::rich, 2, x -> x.watcher(4, 0), x -> x.watcher(-1, 0), x -> x.watcher(LEAST, 3),
            x -> x.watcher(MOST, 0));
        Edge.refused("16: 1 ahead of 2", Edge::rich, 1, x -> x.watcher(4, 4), x -> x.watcher(-1, -1));
        Edge.of("16: how often it was SHOWN something: with WHY 0, 3, 4 and 5; not what was refused, not to MEET", () -> {
            ProvenRecord x = Edge.rich();
            Due.answered("WHY 0", x, x.show(1, 0, 5), 0);
            Due.answered("WHY 3", x, x.show(1, 1, 5), 3);
            Due.answered("WHY 4", x, x.show(1, 1, 3), 4);
            x.fork(0, 2);
            Due.answered("WHY 5", x, x.show(1, 2, 2), 5);
            Due.answered("2 and 4", x, x.watcher(1, 3), 6);
            x.show(1, 0, 6);
            x.show(1, 9, 0);
            x.show(1, 0, -1);
            x.meet(1, 0, 0);
            x.meet(0, 1, 0);
            Due.answered("still", x, x.watcher(1, 3), 6);
        });
    }

    private static void add() {
        Edge.of("17: its number: the first, the next", () -> {
            ProvenRecord x = Edge.fresh();
            Due.answered("0", x, x.add(0), 0);
            Due.answered("1", x, x.add(0), 1);
        });
        Edge.of("17: the last ENTRY of a RECORD: the 48th", () -> {
            ProvenRecord x = Due.loaded("add;".repeat(47));
            Due.type(x, "zyxwvuts");
            Due.answered("47", x, x.add(0), 47);
            Due.answered("letters", x, x.entry(0, 47, 0), 8);
            Due.answered("the last", x, x.entry(0, 47, 9), 19);
            Due.refused("a 49th", x, x.add(0), 3);
        });
        Edge.refused("17: (2)", Edge::rich, 2, x -> x.add(2), x -> x.add(-1), x -> x.add(LEAST), x -> x.add(MOST));
        Edge.refused("17: (3): a 49th", Edge::full, 3, x -> x.add(0), x -> x.add(3));
        Edge.refused("17: 2 ahead of 3", Edge::full, 2, x -> x.add(4), x -> x.add(-1));
        Edge.of("17: one RECORD is full, another one is not", () -> {
            ProvenRecord x = Due.loaded("add;".repeat(48) + "fork 47;");
            Due.refused("full", x, x.add(0), 3);
            Due.answered("not full", x, x.add(1), 47);
            Due.refused("full", x, x.add(1), 3);
        });
        Edge.of("17: the word typed: none ahead of any; it stays typed", () -> {
            ProvenRecord x = Edge.fresh();
            x.add(0);
            Due.answered("no letters", x, x.entry(0, 0, 0), 0);
            Due.type(x, "ab");
            x.add(0);
            x.add(0);
            Due.answered("ab", x, x.entry(0, 1, 0), 2);
            Due.answered("ab", x, x.entry(0, 2, 3), 2);
            Due.type(x, "z");
            Due.answered("ab still", x, x.entry(0, 2, 3), 2);
        });
    }

    private static void fork() {
        Edge.of("18: the first so many: none, all", () -> {
            ProvenRecord x = Edge.rich();
            Due.answered("none", x, x.fork(0, 0), 2);
            Due.answered("without ENTRIES", x, x.size(2), 0);
            Due.answered("all", x, x.fork(1, 5), 3);
            Due.answered("all", x, x.size(3), 5);
            Due.answered("HEAD", x, x.head(3, 5), 10);
        });
        Edge.refused("18: (1: size below 0)", Edge::rich, 1, x -> x.fork(0, -1), x -> x.fork(0, LEAST));
        Edge.refused("18: (2)", Edge::rich, 2, x -> x.fork(2, 0), x -> x.fork(-1, 0), x -> x.fork(MOST, 0));
        Edge.refused("18: (5): one more than it has", Edge::rich, 5, x -> x.fork(0, 6), x -> x.fork(1, 6), x -> x.fork(0, MOST));
        Edge.refused("18: (3): a 5th", Edge::full, 3, x -> x.fork(0, 0), x -> x.fork(3, 48));
        Edge.refused("18: 1 ahead of 2 and 3", Edge::full, 1, x -> x.fork(0, -1), x -> x.fork(4, -1));
        Edge.refused("18: 2 ahead of 3 and 5", Edge::full, 2, x -> x.fork(4, 0), x -> x.fork(4, 49));
        Edge.refused("18: 3 ahead of 5, as part 6 has them", Edge::full, 3, x -> x.fork(0, 49));
        Edge.of("18: a RECORD by itself: what comes to one is not in the other", () -> {
            ProvenRecord x = Edge.rich();
            x.fork(0, 5);
            x.spoil(0, 0, 0, 26);
            Due.answered("spoilt", x, x.entry(2, 0, 2), 1);
            x.spoil(2, 1, 0, 26);
            Due.answered("spoilt", x, x.entry(0, 1, 2), 2);
            x.add(2);
            Due.answered("added", x, x.size(0), 5);
            Due.answered("added", x, x.size(2), 6);
        });
    }

    private static void freeze() {
        Edge.of("19: HEAD of all of a RECORD: of none, of 48", () -> {
            ProvenRecord x = Edge.fresh();
            Due.answered("0", x, x.freeze(0), 0);
            Due.answered("size", x, x.frozen(0, 1), 0);
            Due.answered("MARK", x, x.frozen(0, 2), 0);
            ProvenRecord y = Due.loaded("mod 101;" + "add a;".repeat(48));
            Due.answered("0", y, y.freeze(0), 0);
            Due.answered("size", y, y.frozen(0, 1), 48);
            Due.answered("MARK", y, y.frozen(0, 2), y.head(0, 48));
        });
        Edge.of("19: which it is: the 16th", () -> {
            ProvenRecord x = Due.loaded("freeze;".repeat(15));
            Due.answered("15", x, x.freeze(0), 15);
            Due.refused("a 17th", x, x.freeze(0), 3);
        });
        Edge.refused("19: (2)", Edge::rich, 2, x -> x.freeze(2), x -> x.freeze(-1), x -> x.freeze(LEAST), x -> x.freeze(MOST));
        Edge.refused("19: (3): a 17th", Edge::full, 3, x -> x.freeze(0), x -> x.freeze(3));
        Edge.refused("19: 2 ahead of 3", Edge::full, 2, x -> x.freeze(4), x -> x.freeze(-1));
    }

    private static void show() {
        Edge.refused("20: (1: size below 0)", Edge::rich, 1, x -> x.show(0, 0, -1), x -> x.show(0, 0, LEAST));
        Edge.refused("20: (2): no WATCHER", Edge::rich, 2, x -> x.show(4, 0, 0), x -> x.show(-1, 0, 0), x -> x.show(MOST, 0, 0));
        Edge.refused("20: (2): no RECORD", Edge::rich, 2, x -> x.show(0, 2, 0), x -> x.show(0, -1, 0), x -> x.show(0, MOST, 0));
        Edge.refused("20: (5: the RECORD has not so many)", Edge::rich, 5, x -> x.show(0, 0, 6), x -> x.show(3, 1, 6),
            x -> x.show(0, 0, MOST));
        Edge.refused("20: 1 ahead of 2", Edge::rich, 1, x -> x.show(4, 0, -1), x -> x.show(0, 2, -1));
        Edge.refused("20: 2 ahead of 5", Edge::rich, 2, x -> x.show(4, 0, 6), x -> x.show(0, 2, 6));
        Edge.of("20: none of a RECORD, to one that TRUSTS nothing", () -> {
            ProvenRecord x = Edge.fresh();
            Due.answered("show", x, x.show(3, 0, 0), 0);
            Due.answered("size", x, x.watcher(3, 0), 0);
            Due.answered("HEAD", x, x.watcher(3, 1), 0);
            Due.answered("SHOWN", x, x.watcher(3, 3), 1);
        });
        Edge.of("20: all of a RECORD, the most there may be", () -> {
            ProvenRecord x = Edge.full();
            Due.answered("show", x, x.show(0, 3, 48), 0);
            Due.answered("size", x, x.watcher(0, 0), 48);
            Due.refused("one more", x, x.show(0, 3, 49), 5);
        });
        Edge.of("20: n is the larger one, by one: it TRUSTS that", () -> {
            ProvenRecord x = Edge.rich();
            Due.answered("show", x, x.show(0, 0, 4), 0);
            Due.answered("size", x, x.watcher(0, 0), 4);
            Due.answered("HEAD", x, x.watcher(0, 1), 44);
        });
        Edge.of("20: n is the same: it TRUSTS what it did", () -> {
            ProvenRecord x = Edge.rich();
            Due.answered("show", x, x.show(0, 0, 3), 0);
            Due.answered("size", x, x.watcher(0, 0), 3);
            Due.answered("HEAD", x, x.watcher(0, 1), 93);
            Due.answered("ALARMED", x, x.watcher(0, 2), 0);
        });
        Edge.of("20: n is the same of another RECORD: WHY 3", () -> {
            ProvenRecord x = Edge.rich();
            Due.answered("show", x, x.show(2, 0, 4), 3);
            Due.answered("HEAD", x, x.watcher(2, 1), 66);
            Due.answered("ALARMED", x, x.watcher(2, 2), 1);
        });
    }

    private static void showOfWhatIsLarger() {
        Edge.of("20: if that is larger, by one: from n to that size; it TRUSTS what it did", () -> {
            ProvenRecord x = Edge.rich();
            Due.answered("show", x, x.show(0, 0, 2), 0);
            Due.answered("size", x, x.watcher(0, 0), 3);
            Due.answered("HEAD", x, x.watcher(0, 1), 93);
            Due.answered("none of it", x, x.show(0, 0, 0), 0);
            Due.answered("size", x, x.watcher(0, 0), 3);
        });
        Edge.of("20: that is larger, of another RECORD: WHY 4, the newer one is another", () -> {
            ProvenRecord x = Edge.rich();
            Due.answered("show", x, x.show(2, 0, 3), 4);
            Due.answered("ALARMED", x, x.watcher(2, 2), 1);
            Due.answered("size", x, x.watcher(2, 0), 4);
        });
        Edge.of("20: m being 0, any newer HEAD is TAKEN: none of another RECORD is no alarm", () -> {
            ProvenRecord x = Edge.rich();
            Due.answered("show", x, x.show(2, 0, 0), 0);
            Due.answered("ALARMED", x, x.watcher(2, 2), 0);
        });
        Edge.of("20: if the RECORD has just so many ENTRIES, there is one; one fewer: there is none, 5", () -> {
            ProvenRecord x = Due.loaded("mod 101;add a;add b;add c;show 0 3;fork 2;");
            Due.answered("one fewer", x, x.show(0, 1, 2), 5);
            Due.answered("one fewer, none of it", x, x.show(0, 1, 0), 5);
            Due.answered("not ALARMED", x, x.watcher(0, 2), 0);
            Due.answered("it TRUSTS what it did", x, x.watcher(0, 0), 3);
            Due.type(x, "c");
            x.add(1);
            Due.answered("just so many", x, x.show(0, 1, 2), 0);
        });
        Edge.of("20: WHY 3 where what it TRUSTS is not whole, 4 where it is", () -> {
            ProvenRecord x = Edge.rich();
            x.spoil(0, 0, 0, 26);
            Due.answered("3 to 5", x, x.show(0, 0, 5), 3);
            Due.answered("it TRUSTS what it did", x, x.watcher(0, 0), 3);
            ProvenRecord y = Due.loaded("mod 101;add a;add b;add c;show 0 2;");
            y.spoil(0, 0, 0, 26);
            Due.answered("2 to 3", y, y.show(0, 0, 3), 4);
            Due.answered("it TRUSTS what it did", y, y.watcher(0, 0), 2);
        });
        Edge.of("20: ALARMED, it stays so", () -> {
            ProvenRecord x = Edge.rich();
            Due.answered("show", x, x.show(1, 0, 5), 0);
            Due.answered("ALARMED", x, x.watcher(1, 2), 1);
            x.meet(1, 1, 0);
            Due.answered("ALARMED", x, x.watcher(1, 2), 1);
        });
        Edge.of("20: one that is ALARMED still TRUSTS what is proved to it", () -> {
            ProvenRecord x = Edge.rich();
            x.add(0);
            Due.answered("show", x, x.show(1, 0, 6), 0);
            Due.answered("size", x, x.watcher(1, 0), 6);
        });
    }

    private static void meet() {
        Edge.refused("21: (2): no WATCHER", Edge::rich, 2, x -> x.meet(4, 0, 0), x -> x.meet(-1, 0, 0), x -> x.meet(0, 4, 0),
            x -> x.meet(0, -1, 0), x -> x.meet(LEAST, MOST, 0));
        Edge.refused("21: (2): no RECORD", Edge::rich, 2, x -> x.meet(0, 1, 2), x -> x.meet(0, 1, -1), x -> x.meet(0, 1, MOST));
        Edge.of("21: two that TRUST nothing", () -> {
            ProvenRecord x = Edge.fresh();
            Due.answered("meet", x, x.meet(0, 3, 0), 0);
            Due.answered("size", x, x.watcher(3, 0), 0);
            Due.answered("ACTS", x, x.many(4), 1);
        });
        Edge.of("21: the lesser one is the first, the second: it TRUSTS what the other one does", () -> {
            ProvenRecord x = Edge.rich();
            Due.answered("the first", x, x.meet(0, 1, 0), 0);
            Due.answered("size", x, x.watcher(0, 0), 5);
            Due.answered("HEAD", x, x.watcher(0, 1), 89);
            Due.answered("the second", x, x.meet(2, 3, 1), 0);
            Due.answered("size", x, x.watcher(3, 0), 4);
            Due.answered("HEAD", x, x.watcher(3, 1), 66);
        });
        Edge.of("21: of equal sizes: alike 0, unlike 3", () -> {
            ProvenRecord x = Due.loaded("mod 101;add a;show 0 1;show 1 1;fork 0;add b;show 2 1;");
            Due.answered("alike", x, x.meet(0, 1, 1), 0);
            Due.answered("unlike", x, x.meet(0, 2, 0), 3);
            Due.answered("both ALARMED", x, x.many(5), 5);
            Due.answered("each TRUSTS what it did", x, x.watcher(0, 1), 12);
            Due.answered("each TRUSTS what it did", x, x.watcher(2, 1), 13);
        });
        Edge.of("21: the RECORD has just so many ENTRIES; it has one fewer: 5, none is ALARMED", () -> {
            ProvenRecord x = Due.loaded("mod 101;add a;add b;add c;show 0 3;show 1 1;fork 2;");
            Due.answered("one fewer", x, x.meet(0, 1, 1), 5);
            Due.answered("one fewer, the other way", x, x.meet(1, 0, 1), 5);
            Due.answered("one fewer, from nothing", x, x.meet(2, 0, 1), 5);
            Due.answered("one fewer, itself", x, x.meet(0, 0, 1), 5);
            Due.answered("none ALARMED", x, x.many(5), 0);
            Due.answered("it TRUSTS what it did", x, x.watcher(1, 0), 1);
            Due.answered("just so many", x, x.meet(1, 0, 0), 0);
            Due.answered("it TRUSTS what the other one does", x, x.watcher(1, 0), 3);
        });
        Edge.of("21: WHY 3 and 4: both are ALARMED, and TRUST what they did", () -> {
            ProvenRecord x = Due.loaded("mod 101;add a;add b;add c;show 0 2;show 1 3;fork 0;add z;add b;add c;show 2 3;");
            Due.answered("2 is whole", x, x.meet(2, 0, 1), 4);
            Due.answered("both", x, x.many(5), 5);
            Due.answered("size", x, x.watcher(0, 0), 2);
            Due.answered("3 and 3", x, x.meet(1, 2, 1), 3);
            Due.answered("all three", x, x.many(5), 7);
        });
        Edge.of("21: from nothing: any newer HEAD is TAKEN", () -> {
            ProvenRecord x = Edge.rich();
            Due.answered("meet", x, x.meet(1, 3, 1), 0);
            Due.answered("size", x, x.watcher(3, 0), 5);
            Due.answered("HEAD", x, x.watcher(3, 1), 89);
            Due.answered("not ALARMED by one that is", x, x.watcher(3, 2), 0);
        });
    }

    private static void spoil() {
        Edge.refused("22: (1: letter): 0, 27, below 0", Edge::rich, 1, x -> x.spoil(0, 0, 0, 0), x -> x.spoil(0, 0, 0, 27),
            x -> x.spoil(0, 0, 0, -1), x -> x.spoil(0, 0, 0, LEAST), x -> x.spoil(0, 0, 0, MOST));
        Edge.refused("22: (1: k below 0)", Edge::rich, 1, x -> x.spoil(0, 0, -1, 26), x -> x.spoil(0, 0, LEAST, 26));
        Edge.refused("22: (1), by part 6: i below 0", Edge::rich, 1, x -> x.spoil(0, -1, 0, 26), x -> x.spoil(0, LEAST, 0, 26));
        Edge.refused("22: (2)", Edge::rich, 2, x -> x.spoil(2, 0, 0, 26), x -> x.spoil(-1, 0, 0, 26), x -> x.spoil(MOST, 0, 0, 26));
        Edge.refused("22: (5: no such ENTRY)", Edge::rich, 5, x -> x.spoil(0, 5, 0, 26), x -> x.spoil(0, MOST, 0, 26));
        Edge.refused("22: (5: no such ENTRY): none there", Edge::fresh, 5, x -> x.spoil(0, 0, 0, 26));
        Edge.refused("22: (5: no such letter)", Edge::rich, 5, x -> x.spoil(0, 0, 1, 26), x -> x.spoil(0, 0, MOST, 26));
        Edge.refused("22: (5: no such letter): of none, of 8", Edge.loaded("add;add abcdefgh;"), 5, x -> x.spoil(0, 0, 0, 26),
            x -> x.spoil(0, 1, 8, 26));
        Edge.refused("22: (5: it is that letter)", Edge::rich, 5, x -> x.spoil(0, 0, 0, 1), x -> x.spoil(1, 3, 0, 26));
        Edge.refused("22: 1 ahead of 2 and 5", Edge::rich, 1, x -> x.spoil(2, 0, 0, 27), x -> x.spoil(2, 0, -1, 26),
            x -> x.spoil(0, 5, 0, 0), x -> x.spoil(0, 0, 9, 0));
        Edge.refused("22: 2 ahead of 5", Edge::rich, 2, x -> x.spoil(2, 9, 9, 1));
        Edge.of("22: letters 1 and 26: the one it was", () -> {
            ProvenRecord x = Due.loaded("mod 101;add bcdefghy;");
            Due.answered("the first becomes a", x, x.spoil(0, 0, 0, 1), 2);
            Due.answered("a", x, x.entry(0, 0, 2), 1);
            Due.answered("the last becomes z", x, x.spoil(0, 0, 7, 26), 25);
            Due.answered("z", x, x.entry(0, 0, 9), 26);
            Due.answered("the one ahead of it", x, x.entry(0, 0, 8), 8);
            Due.answered("letters", x, x.entry(0, 0, 0), 8);
        });
        Edge.of("22: the first and the last ENTRY of 48, of the last RECORD", () -> {
            ProvenRecord x = Edge.full();
            Due.answered("the first", x, x.spoil(3, 0, 0, 26), 1);
            Due.answered("the last", x, x.spoil(3, 47, 0, 25), 1);
            Due.answered("MARK", x, x.entry(3, 0, 1), 37);
            Due.answered("MARK", x, x.entry(3, 47, 1), 36);
            Due.answered("not the one beside it", x, x.entry(3, 46, 1), 12);
            Due.answered("not the other RECORD", x, x.entry(2, 47, 1), 12);
            Due.answered("ACTS", x, x.many(4), 70);
        });
    }
}
