/** Edges of promises 23 to 37: the PAD, and the VERIFIER. What the objects have stands at Edge.rich() and Edge.full(). */
public final class EdgesOfProofsTest {
    private static final int LEAST = Edge.LEAST;
    private static final int MOST = Edge.MOST;

    private EdgesOfProofsTest() {
    }

    public static void main(String[] args) {
        push();
        poke();
        pad();
        cut();
        include();
        grow();
        bundle();
        peaks();
        extend();
        checks();
        growth();
        bundled();
        fold();
        steps();
        climbs();
        Edge.end();
    }

    /** An object by M 101 with so many MARKS on the PAD: 1, 2, 3, .. */
    private static ProvenRecord padded(int many) {
        ProvenRecord x = Due.loaded("mod 101;");
        for (int k = 1; k <= many; k++) {
            x.push(k);
        }
        return x;
    }

    private static ProvenRecord padWith(int... marks) {
        ProvenRecord x = Due.loaded("mod 101;");
        Due.setPad(x, marks);
        return x;
    }

    private static void push() {
        Edge.of("23: how many it has: 1, the 64th; a 65th is one too many", () -> {
            ProvenRecord x = Edge.fresh();
            for (int k = 1; k <= 64; k++) {
                Due.answered("push", x, x.push(k), k);
            }
            Due.refused("a 65th", x, x.push(65), 3);
            Due.answered("the first", x, x.pad(0), 1);
            Due.answered("the last", x, x.pad(63), 64);
            Due.answered("MARKS", x, x.many(2), 64);
        });
        Edge.gives("23: MARKS 0 and M less 1", Edge::rich, 4, x -> x.push(0), x -> x.push(100));
        Edge.gives("23: M less 1 at first", Edge::fresh, 1, x -> x.push(65520));
        Edge.refused("23: (1: a MARK)", Edge::rich, 1, x -> x.push(101), x -> x.push(-1), x -> x.push(LEAST), x -> x.push(MOST));
        Edge.refused("23: (1: a MARK), at first", Edge::fresh, 1, x -> x.push(65521), x -> x.push(-1));
        Edge.refused("23: (3)", Edge::full, 3, x -> x.push(0), x -> x.push(100));
        Edge.refused("23: 1 ahead of 3", Edge::full, 1, x -> x.push(101), x -> x.push(-1));
    }

    private static void poke() {
        Edge.of("24: the one it was: of the first, of the last", () -> {
            ProvenRecord x = Edge.rich();
            Due.answered("the first", x, x.poke(0, 0), 7);
            Due.answered("the last", x, x.poke(2, 100), 9);
            Due.pad("poked", x, 0, 8, 100);
        });
        Edge.of("24: of 64, the last", () -> {
            ProvenRecord x = Edge.full();
            Due.answered("63", x, x.poke(63, 5), 63);
            Due.answered("63", x, x.pad(63), 5);
            Due.answered("62", x, x.pad(62), 62);
        });
        Edge.gives("24: by the one it is", Edge::rich, 7, x -> x.poke(0, 7));
        Edge.refused("24: (1: a MARK)", Edge::rich, 1, x -> x.poke(0, 101), x -> x.poke(0, -1), x -> x.poke(0, MOST),
            x -> x.poke(0, LEAST));
        Edge.refused("24: (1: k below 0)", Edge::rich, 1, x -> x.poke(-1, 0), x -> x.poke(LEAST, 0));
        Edge.refused("24: (5)", Edge::rich, 5, x -> x.poke(3, 0), x -> x.poke(63, 0), x -> x.poke(64, 0), x -> x.poke(MOST, 0));
        Edge.refused("24: (5): of none", Edge::fresh, 5, x -> x.poke(0, 0));
        Edge.refused("24: (5): of 64", Edge::full, 5, x -> x.poke(64, 0));
        Edge.refused("24: 1 ahead of 5", Edge::rich, 1, x -> x.poke(3, 101), x -> x.poke(3, -1));
    }

    private static void pad() {
        Edge.gives("25: the first", Edge::rich, 7, x -> x.pad(0));
        Edge.gives("25: the last", Edge::rich, 9, x -> x.pad(2));
        Edge.gives("25: the last of 64", Edge::full, 63, x -> x.pad(63));
        Edge.refused("25: (1: below 0)", Edge::rich, 1, x -> x.pad(-1), x -> x.pad(LEAST));
        Edge.refused("25: (5)", Edge::rich, 5, x -> x.pad(3), x -> x.pad(63), x -> x.pad(64), x -> x.pad(MOST));
        Edge.refused("25: (5): of none", Edge::fresh, 5, x -> x.pad(0));
        Edge.refused("25: (5): of 64", Edge::full, 5, x -> x.pad(64));
    }

    private static void cut() {
        Edge.of("26: its first n MARKS alone: all, all but one, none", () -> {
            ProvenRecord x = Edge.rich();
            Due.answered("all", x, x.cut(3), 3);
            Due.pad("all", x, 7, 8, 9);
            Due.answered("all but one", x, x.cut(2), 2);
            Due.pad("all but one", x, 7, 8);
            Due.answered("none", x, x.cut(0), 0);
            Due.pad("none", x);
            Due.answered("none of none", x, x.cut(0), 0);
        });
        Edge.of("26: what was cut is gone: room for as many again", () -> {
            ProvenRecord x = Edge.full();
            Due.answered("all but one", x, x.cut(63), 63);
            Due.refused("gone", x, x.pad(63), 5);
            Due.answered("push", x, x.push(99), 64);
            Due.answered("the last", x, x.pad(63), 99);
            Due.refused("a 65th", x, x.push(99), 3);
        });
        Edge.refused("26: (1: below 0)", Edge::rich, 1, x -> x.cut(-1), x -> x.cut(LEAST));
        Edge.refused("26: (5: it has not so many)", Edge::rich, 5, x -> x.cut(4), x -> x.cut(64), x -> x.cut(MOST));
        Edge.refused("26: (5): of none, of 64", Edge::fresh, 5, x -> x.cut(1));
        Edge.refused("26: (5): of none, of 64", Edge::full, 5, x -> x.cut(65));
    }

    private static void include() {
        Edge.refused("27: (1: i below 0)", Edge::rich, 1, x -> x.include(0, -1, 5), x -> x.include(0, LEAST, 5));
        Edge.refused("27: (1: n below 0)", Edge::rich, 1, x -> x.include(0, 0, -1), x -> x.include(0, 0, LEAST));
        Edge.refused("27: (2)", Edge::rich, 2, x -> x.include(2, 0, 1), x -> x.include(-1, 0, 1), x -> x.include(MOST, 0, 1));
        Edge.refused("27: (5: not so many ENTRIES)", Edge::rich, 5, x -> x.include(0, 0, 6), x -> x.include(1, 5, 6),
            x -> x.include(0, 0, MOST));
        Edge.refused("27: (5: i is none of these)", Edge::rich, 5, x -> x.include(0, 5, 5), x -> x.include(0, 1, 1),
            x -> x.include(0, 0, 0), x -> x.include(0, MOST, 5));
        Edge.refused("27: 1 ahead of 2 and 5", Edge::rich, 1, x -> x.include(2, -1, 5), x -> x.include(0, -1, 6),
            x -> x.include(0, 5, -1));
        Edge.refused("27: 2 ahead of 5", Edge::rich, 2, x -> x.include(2, 0, 6), x -> x.include(2, 5, 5));
        Edge.of("27: of one, of all: the first and the last", () -> {
            ProvenRecord x = Edge.rich();
            Due.answered("0 of 1", x, x.include(0, 0, 1), 0);
            Due.pad("none", x);
            Due.answered("0 of 5", x, x.include(0, 0, 5), 3);
            Due.pad("b, cd, e", x, 13, 66, 16);
            Due.answered("4 of 5", x, x.include(0, 4, 5), 1);
            Due.pad("abcd", x, 44);
        });
        Edge.of("27: in the most there may be: what is included is TAKEN", () -> {
            ProvenRecord x = Edge.full();
            int[] marks = {6, 6, 5, 5, 5};
            int[] things = {0, 31, 32, 46, 47};
            for (int k = 0; k < things.length; k++) {
                Due.answered("include " + things[k], x, x.include(3, things[k], 48), marks[k]);
                Due.answered("TAKEN", x, x.checks(12, things[k], 48, x.head(3, 48)), 0);
            }
        });
        Edge.of("27: the PAD is that alone: it was full", () -> {
            ProvenRecord x = Edge.full();
            Due.answered("include", x, x.include(0, 0, 2), 1);
            Due.pad("a", x, 12);
        });
    }

    private static void grow() {
        Edge.refused("28: (1: m below 0)", Edge::rich, 1, x -> x.grow(0, -1, 5), x -> x.grow(0, LEAST, 5), x -> x.grow(0, -1, -1));
        Edge.refused("28: (1: m above n)", Edge::rich, 1, x -> x.grow(0, 5, 4), x -> x.grow(0, 1, 0), x -> x.grow(0, 0, -1),
            x -> x.grow(0, MOST, 5), x -> x.grow(0, 0, LEAST));
        Edge.refused("28: (2)", Edge::rich, 2, x -> x.grow(2, 0, 0), x -> x.grow(-1, 0, 0), x -> x.grow(MOST, 0, 0));
        Edge.refused("28: (5: not so many ENTRIES)", Edge::rich, 5, x -> x.grow(0, 3, 6), x -> x.grow(0, 6, 6),
            x -> x.grow(0, 0, 6), x -> x.grow(0, MOST, MOST));
        Edge.refused("28: (5): of the most", Edge::full, 5, x -> x.grow(0, 48, 49));
        Edge.refused("28: 1 ahead of 2 and 5", Edge::rich, 1, x -> x.grow(2, -1, 5), x -> x.grow(2, 5, 4), x -> x.grow(0, 7, 6));
        Edge.refused("28: 2 ahead of 5", Edge::rich, 2, x -> x.grow(2, 0, 6));
        Edge.of("28: m 0, 1, n less 1, n; n 0, all", () -> {
            ProvenRecord x = Edge.rich();
            Due.answered("0 to 0", x, x.grow(0, 0, 0), 0);
            Due.pad("0 to 0", x);
            Due.answered("1 to 5", x, x.grow(0, 1, 5), 3);
            Due.pad("b, cd, e", x, 13, 66, 16);
            Due.answered("4 to 5", x, x.grow(0, 4, 5), 1);
            Due.pad("e", x, 16);
            Due.answered("5 to 5", x, x.grow(0, 5, 5), 0);
            Due.pad("5 to 5", x);
        });
        Edge.of("28: to the most there may be: what is grown is TAKEN", () -> {
            ProvenRecord x = Edge.full();
            int[] from = {0, 1, 31, 32, 33, 47, 48};
            int[] marks = {0, 6, 7, 1, 6, 6, 0};
            for (int k = 0; k < from.length; k++) {
                Due.answered("grow " + from[k], x, x.grow(3, from[k], 48), marks[k]);
                Due.answered("TAKEN", x, x.growth(from[k], x.head(3, from[k]), 48, x.head(3, 48)), 0);
            }
        });
    }

    private static void bundle() {
        Edge.refused("29: (1: n below 0)", Edge::rich, 1, x -> x.bundle(0, 1, -1), x -> x.bundle(0, 1, LEAST));
        Edge.refused("29: (1: the set below 0)", Edge::rich, 1, x -> x.bundle(0, -1, 5), x -> x.bundle(0, LEAST, 5));
        Edge.refused("29: (1: the set empty)", Edge::rich, 1, x -> x.bundle(0, 0, 5), x -> x.bundle(0, 0, 0));
        Edge.refused("29: (2)", Edge::rich, 2, x -> x.bundle(2, 1, 1), x -> x.bundle(-1, 1, 1), x -> x.bundle(MOST, 1, 1));
        Edge.refused("29: (5: not so many ENTRIES)", Edge::rich, 5, x -> x.bundle(0, 1, 6), x -> x.bundle(0, 1 << 5, 6),
            x -> x.bundle(0, 1, MOST));
        Edge.refused("29: (5: one of the set is none of these)", Edge::rich, 5, x -> x.bundle(0, 1 << 5, 5),
            x -> x.bundle(0, 1 | 1 << 5, 5), x -> x.bundle(0, 1, 0), x -> x.bundle(0, 2, 1), x -> x.bundle(0, 1 << 29, 5),
            x -> x.bundle(0, 1 << 30, 5), x -> x.bundle(0, MOST, 5));
        Edge.refused("29: of ENTRIES 0 to 29: bit 30 is of none of these, however many there are", Edge::full, 5,
            x -> x.bundle(0, 1 << 30, 30), x -> x.bundle(0, 1 << 30, 31), x -> x.bundle(0, 1 << 30, 32),
            x -> x.bundle(0, 1 << 30, 48), x -> x.bundle(0, 1 << 30 | 1, 31), x -> x.bundle(0, MOST, 31),
            x -> x.bundle(3, MOST, 48));
        Edge.refused("29: 1 ahead of 2 and 5", Edge::rich, 1, x -> x.bundle(2, 0, 5), x -> x.bundle(2, 1, -1),
            x -> x.bundle(0, LEAST, 6), x -> x.bundle(0, 0, 6));
        Edge.refused("29: 2 ahead of 5", Edge::rich, 2, x -> x.bundle(2, 1, 6), x -> x.bundle(2, 1 << 5, 5),
            x -> x.bundle(2, 1 << 30, 31));
        Edge.of("29: the first alone, the last alone, all", () -> {
            ProvenRecord x = Edge.rich();
            Due.answered("the first", x, x.bundle(0, 1, 5), 3);
            Due.pad("b, cd, e", x, 13, 66, 16);
            Due.answered("the last", x, x.bundle(0, 16, 5), 1);
            Due.pad("abcd", x, 44);
            Due.answered("all", x, x.bundle(0, 31, 5), 0);
            Due.pad("none", x);
            Due.answered("one of 1", x, x.bundle(0, 1, 1), 0);
            Due.pad("none", x);
        });
        Edge.of("29: of ENTRIES 0 to 29, in the most there may be", () -> {
            ProvenRecord x = Edge.full();
            Due.answered("29 of 48", x, x.bundle(0, 1 << 29, 48), 6);
            Due.answered("29 of 30", x, x.bundle(0, 1 << 29, 30), 4);
            Due.refused("29 of 29", x, x.bundle(0, 1 << 29, 29), 5);
            Due.answered("29 of 31", x, x.bundle(0, 1 << 29, 31), 5);
            Due.answered("0 to 29 of 31: 30", x, x.bundle(0, (1 << 30) - 1, 31), 1);
            Due.answered("0 to 29 of 48: 30 and 31, the other 16", x, x.bundle(0, (1 << 30) - 1, 48), 2);
            Due.answered("every other one: 15, 30 and 31, the other 16", x, x.bundle(0, 0x15555555, 48), 17);
        });
    }

    private static void peaks() {
        Edge.refused("30: (1): n below 0", Edge::rich, 1, x -> x.peaks(0, -1), x -> x.peaks(0, LEAST), x -> x.peaks(2, -1));
        Edge.refused("30: (2)", Edge::rich, 2, x -> x.peaks(2, 0), x -> x.peaks(-1, 0), x -> x.peaks(2, 6), x -> x.peaks(MOST, 0));
        Edge.refused("30: (5): one more than it has", Edge::rich, 5, x -> x.peaks(0, 6), x -> x.peaks(0, MOST));
        Edge.refused("30: (5): one more than the most", Edge::full, 5, x -> x.peaks(0, 49));
        Edge.of("30: of none, of one, of all", () -> {
            ProvenRecord x = Edge.rich();
            Due.answered("0", x, x.peaks(0, 0), 0);
            Due.pad("none", x);
            Due.answered("1", x, x.peaks(0, 1), 1);
            Due.pad("a", x, 12);
            Due.answered("5", x, x.peaks(1, 5), 2);
            Due.pad("abcz, y", x, 66, 36);
        });
    }

    private static void extend() {
        Edge.refused("31: (1: m): below 0, above 1,000,000", Edge::rich, 1, x -> x.extend(-1, 0), x -> x.extend(LEAST, 0),
            x -> x.extend(1000001, 0), x -> x.extend(MOST, 0));
        Edge.refused("31: (1: a MARK)", Edge::rich, 1, x -> x.extend(7, 101), x -> x.extend(7, -1), x -> x.extend(7, MOST),
            x -> x.extend(7, LEAST));
        Edge.refused("31: (5: it has not just as many): one too many, one too few", Edge::rich, 5, x -> x.extend(3, 0),
            x -> x.extend(15, 0), x -> x.extend(0, 0), x -> x.extend(1000000, 0));
        Edge.refused("31: (5): of an empty PAD", Edge::fresh, 5, x -> x.extend(1, 0), x -> x.extend(1000000, 0));
        Edge.refused("31: (5): of a full PAD", Edge::full, 5, x -> x.extend(0, 0), x -> x.extend(524287, 0));
        Edge.refused("31: 1 ahead of 5", Edge::rich, 1, x -> x.extend(1000001, 0), x -> x.extend(3, 101), x -> x.extend(-1, 0));
        Edge.of("31: m 0: the PAD is empty, and is the MARK then", () -> {
            ProvenRecord x = padded(0);
            Due.answered("0", x, x.extend(0, 100), 1);
            Due.pad("100", x, 100);
        });
        Edge.of("31: m even: one more; m odd: the last ones are joined", () -> {
            ProvenRecord x = padded(0);
            Due.setPad(x, 39);
            Due.answered("2", x, x.extend(2, 14), 2);
            Due.pad("ab, c", x, 39, 14);
            Due.answered("3", x, x.extend(3, 15), 1);
            Due.pad("abcd", x, 44);
        });
        Edge.of("31: m 1,000,000, of 7 PEAKS: one more", () -> {
            ProvenRecord x = padded(7);
            Due.answered("extend", x, x.extend(1000000, 9), 8);
            Due.pad("extended", x, 1, 2, 3, 4, 5, 6, 7, 9);
        });
        Edge.of("31: m 999,999, of 12 PEAKS: the last 6 are joined", () -> {
            ProvenRecord x = padded(12);
            int peak = 13;
            for (int k = 12; k > 6; k--) {
                peak = Due.join(101, k, peak);
            }
            Due.answered("extend", x, x.extend(999999, 13), 7);
            Due.pad("extended", x, 1, 2, 3, 4, 5, 6, peak);
        });
        Edge.of("31: m 524,287, of 19 PEAKS, the most: all are joined", () -> {
            ProvenRecord x = padded(19);
            int peak = 0;
            for (int k = 19; k > 0; k--) {
                peak = Due.join(101, k, peak);
            }
            Due.answered("extend", x, x.extend(524287, 0), 1);
            Due.pad("extended", x, peak);
        });
        Edge.of("31: from none to 48 things: PEAKS of each", () -> {
            ProvenRecord x = Due.loaded("mod 101;" + "add a;add b;".repeat(24));
            for (int n = 0; n < 48; n++) {
                Due.answered("extend " + n, x, x.extend(n, 12 + n % 2), Integer.bitCount(n + 1));
                Due.answered("fold " + n, x, x.fold(), x.head(0, n + 1));
            }
        });
    }

    private static void checks() {
        Edge.refused("32: (1: i below 0)", Edge::rich, 1, x -> x.checks(7, -1, 5, 7), x -> x.checks(7, LEAST, 5, 7));
        Edge.refused("32: (1: i not below n)", Edge::rich, 1, x -> x.checks(7, 5, 5, 7), x -> x.checks(7, 0, 0, 7),
            x -> x.checks(7, 0, -1, 7), x -> x.checks(7, MOST, MOST, 7), x -> x.checks(7, 0, LEAST, 7));
        Edge.refused("32: (1: a MARK)", Edge::rich, 1, x -> x.checks(101, 0, 5, 7), x -> x.checks(-1, 0, 5, 7),
            x -> x.checks(MOST, 0, 5, 7));
        Edge.refused("32: (1: a MARK): the HEAD", Edge::rich, 1, x -> x.checks(7, 0, 5, 101), x -> x.checks(7, 0, 5, -1),
            x -> x.checks(7, 0, 5, LEAST));
        Edge.gives("32: one alone: MARKS 0 and M less 1", () -> padded(0), 0, x -> x.checks(0, 0, 1, 0),
            x -> x.checks(100, 0, 1, 100));
        Edge.gives("32: one alone, another HEAD", () -> padded(0), 3, x -> x.checks(0, 0, 1, 100), x -> x.checks(7, 0, 1, 8));
        Edge.gives("32: one alone, and a MARK: too many", () -> padded(1), 2, x -> x.checks(7, 0, 1, 7));
        Edge.gives("32: an empty PAD has too few for two", () -> padded(0), 1, x -> x.checks(7, 0, 2, 7), x -> x.checks(7, 1, 2, 7));
        Edge.of("32: the last thing, and the one ahead of it", () -> {
            ProvenRecord x = Edge.five();
            x.push(44);
            Due.answered("4 of 5", x, x.checks(16, 4, 5, 89), 0);
            Due.answered("3 of 5: too few", x, x.checks(16, 3, 5, 89), 1);
            x.include(0, 3, 5);
            Due.answered("3 of 5", x, x.checks(15, 3, 5, 89), 0);
            Due.answered("4 of 5: too many", x, x.checks(15, 4, 5, 89), 2);
        });
        Edge.of("32: n as great as may be: 31 MARKS for the first thing, 30 for the last", () -> {
            ProvenRecord x = padded(30);
            Due.answered("one too few", x, x.checks(5, 0, MOST, 0), 1);
            int last = 5;
            int first = 5;
            for (int k = 1; k <= 30; k++) {
                last = Due.join(101, k, last);
                first = Due.join(101, first, k);
            }
            Due.answered("the last", x, x.checks(5, MOST - 1, MOST, last), 0);
            Due.answered("the last, another HEAD", x, x.checks(5, MOST - 1, MOST, (last + 1) % 101), 3);
            x.push(31);
            Due.answered("the last: one too many", x, x.checks(5, MOST - 1, MOST, last), 2);
            Due.answered("the first", x, x.checks(5, 0, MOST, Due.join(101, first, 31)), 0);
            x.push(32);
            Due.answered("the first: one too many", x, x.checks(5, 0, MOST, 0), 2);
        });
        Edge.gives("32: a full PAD has too many", Edge::full, 2, x -> x.checks(7, 0, MOST, 7));
    }

    private static void growth() {
        Edge.refused("33: (1: m below 0)", Edge::rich, 1, x -> x.growth(-1, 0, 5, 0), x -> x.growth(LEAST, 0, 5, 0),
            x -> x.growth(-1, 0, -1, 0));
        Edge.refused("33: (1: m above n)", Edge::rich, 1, x -> x.growth(6, 0, 5, 0), x -> x.growth(0, 0, -1, 0),
            x -> x.growth(MOST, 0, MOST - 1, 0), x -> x.growth(0, 0, LEAST, 0));
        Edge.refused("33: (1: a MARK): the older one", Edge::rich, 1, x -> x.growth(2, 101, 5, 0), x -> x.growth(2, -1, 5, 0),
            x -> x.growth(0, MOST, 0, 0));
        Edge.refused("33: (1: a MARK): the newer one", Edge::rich, 1, x -> x.growth(2, 0, 5, 101), x -> x.growth(2, 0, 5, -1),
            x -> x.growth(0, 0, 0, LEAST));
        Edge.gives("33: from 0, an empty PAD", () -> padded(0), 0, x -> x.growth(0, 0, 0, 0), x -> x.growth(0, 0, 1, 100),
            x -> x.growth(0, 0, MOST, 0));
        Edge.gives("33: from n, an empty PAD", () -> padded(0), 0, x -> x.growth(1, 0, 1, 0), x -> x.growth(5, 100, 5, 100),
            x -> x.growth(MOST, 7, MOST, 7));
        Edge.gives("33: an empty PAD has too few from 1, from n less 1", () -> padded(0), 1, x -> x.growth(1, 7, 2, 7),
            x -> x.growth(1, 7, MOST, 7), x -> x.growth(MOST - 1, 7, MOST, 7));
        Edge.gives("33: a full PAD has too many", Edge::full, 2, x -> x.growth(0, 0, 0, 0), x -> x.growth(0, 0, 5, 0),
            x -> x.growth(5, 0, 5, 0), x -> x.growth(MOST - 1, 0, MOST, 0));
        Edge.of("33: n as great as may be, from 1: 31 MARKS", () -> {
            ProvenRecord x = padded(30);
            int newer = 5;
            for (int k = 1; k <= 31; k++) {
                newer = Due.join(101, newer, k);
            }
            Due.answered("one too few", x, x.growth(1, 5, MOST, newer), 1);
            x.push(31);
            Due.answered("just so many", x, x.growth(1, 5, MOST, newer), 0);
            Due.answered("another HEAD", x, x.growth(1, 5, MOST, (newer + 1) % 101), 4);
            x.push(32);
            Due.answered("one too many", x, x.growth(1, 5, MOST, newer), 2);
        });
        Edge.of("33: n as great as may be, from n less 1: 31 MARKS", () -> {
            ProvenRecord x = padded(31);
            int older = 1;
            int newer = Due.join(101, 1, 2);
            for (int k = 3; k <= 31; k++) {
                older = Due.join(101, k, older);
                newer = Due.join(101, k, newer);
            }
            Due.answered("just so many", x, x.growth(MOST - 1, older, MOST, newer), 0);
            Due.answered("older", x, x.growth(MOST - 1, (older + 1) % 101, MOST, newer), 3);
            Due.answered("newer", x, x.growth(MOST - 1, older, MOST, (newer + 1) % 101), 4);
            x.cut(30);
            Due.answered("one too few", x, x.growth(MOST - 1, older, MOST, newer), 1);
        });
        Edge.of("33: WHY 3 and 4 by one", () -> {
            ProvenRecord x = Edge.five();
            x.grow(0, 3, 5);
            Due.answered("older, one less", x, x.growth(3, 92, 5, 89), 3);
            Due.answered("older, one more", x, x.growth(3, 94, 5, 89), 3);
            Due.answered("newer, one less", x, x.growth(3, 93, 5, 88), 4);
            Due.answered("newer, one more", x, x.growth(3, 93, 5, 90), 4);
        });
    }

    private static void bundled() {
        Edge.refused("34: (1: n below 0)", Edge::rich, 1, x -> x.bundled(1, -1, 0), x -> x.bundled(1, LEAST, 0));
        Edge.refused("34: (1: the set below 0)", Edge::rich, 1, x -> x.bundled(-1, 5, 0), x -> x.bundled(LEAST, 5, 0));
        Edge.refused("34: (1: the set empty)", Edge::rich, 1, x -> x.bundled(0, 5, 0), x -> x.bundled(0, 0, 0));
        Edge.refused("34: (1: one of it is not below n)", Edge::rich, 1, x -> x.bundled(1 << 5, 5, 0),
            x -> x.bundled(1 | 1 << 5, 5, 0), x -> x.bundled(1, 0, 0), x -> x.bundled(2, 1, 0), x -> x.bundled(1 << 29, 29, 0));
        Edge.refused("34: a set is of things 0 to 29: bit 30 is of none below n, however many there are", Edge::full, 1,
            x -> x.bundled(1 << 30, 30, 0), x -> x.bundled(1 << 30, 31, 0), x -> x.bundled(1 << 30, MOST, 0),
            x -> x.bundled(1 << 30 | 1, 31, 0), x -> x.bundled(MOST, 48, 0), x -> x.bundled(MOST, MOST, 0));
        Edge.refused("34: (1: a MARK)", Edge::rich, 1, x -> x.bundled(1, 5, 101), x -> x.bundled(1, 5, -1),
            x -> x.bundled(1, 5, MOST));
        Edge.of("34: just so many; one too few; one too many", () -> {
            ProvenRecord x = Edge.five();
            Due.setPad(x, 13, 16, 12);
            Due.answered("one too few", x, x.bundled(18, 5, 89), 1);
            x.push(66);
            Due.answered("just so many", x, x.bundled(18, 5, 89), 0);
            Due.answered("another HEAD", x, x.bundled(18, 5, 88), 3);
            x.push(0);
            Due.answered("one too many", x, x.bundled(18, 5, 89), 2);
        });
        Edge.gives("34: one alone: MARK 0", () -> padWith(0), 0, x -> x.bundled(1, 1, 0));
        Edge.gives("34: one alone: MARK M less 1", () -> padWith(100), 0, x -> x.bundled(1, 1, 100));
        Edge.gives("34: one alone, another HEAD", () -> padWith(0), 3, x -> x.bundled(1, 1, 1), x -> x.bundled(1, 1, 100));
        Edge.gives("34: an empty PAD has too few", () -> padded(0), 1, x -> x.bundled(1, 1, 0), x -> x.bundled(1 << 29, MOST, 0));
        Edge.gives("34: a full PAD has too many", Edge::full, 2, x -> x.bundled(1, 1, 0), x -> x.bundled(1 << 29, MOST, 0));
        Edge.of("34: all of the set, no BUNDLE", () -> {
            ProvenRecord x = Edge.five();
            Due.setPad(x, 12, 13, 14, 15, 16);
            Due.answered("all of 5", x, x.bundled(31, 5, 89), 0);
            x.poke(4, 17);
            Due.answered("another MARK", x, x.bundled(31, 5, 89), 3);
        });
        Edge.of("34: things 0 to 29, all of 30 and of 48", () -> {
            ProvenRecord x = Due.loaded("mod 101;" + "add a;".repeat(48));
            for (int k = 0; k < 30; k++) {
                x.push(12);
            }
            Due.answered("30", x, x.bundled((1 << 30) - 1, 30, x.head(0, 30)), 0);
            Due.answered("48: too few", x, x.bundled((1 << 30) - 1, 48, x.head(0, 48)), 1);
            x.push(x.join(12, 12));
            x.push(x.head(0, 16));
            Due.answered("48", x, x.bundled((1 << 30) - 1, 48, x.head(0, 48)), 0);
        });
        Edge.of("34: by M 65,521: MARKS up to M less 1", () -> {
            ProvenRecord x = Edge.fresh();
            Due.setPad(x, 65503, 65515);
            Due.answered("both of two", x, x.bundled(3, 2, 65520), 0);
            Due.answered("the first of two", x, x.bundled(1, 2, 65520), 0);
            Due.setPad(x, 65516, 65503);
            Due.answered("the second of two", x, x.bundled(2, 2, 0), 0);
            Due.refused("M", x, x.bundled(2, 2, 65521), 1);
        });
        Edge.of("34: n as great as may be: 1 MARK of the set, 31 others", () -> {
            ProvenRecord x = padded(31);
            int head = 1;
            for (int k = 2; k <= 32; k++) {
                head = Due.join(101, head, k);
            }
            Due.answered("one too few", x, x.bundled(1, MOST, head), 1);
            x.push(32);
            Due.answered("just so many", x, x.bundled(1, MOST, head), 0);
            x.push(33);
            Due.answered("one too many", x, x.bundled(1, MOST, head), 2);
        });
    }

    private static void fold() {
        Edge.gives("35: (0 without MARKS)", () -> padded(0), 0, x -> x.fold());
        Edge.gives("35: of one: that", () -> padWith(100), 100, x -> x.fold());
        Edge.gives("35: of two: the last with the one ahead of it, that first", () -> padWith(12, 13), 39, x -> x.fold());
        // 13 with 14: 30 * 33 + 14 + 7 = 1011 is 1; 12 with 1: 29 * 32 + 1 + 7 = 936 is 27
        Edge.gives("35: of three: the last two first", () -> padWith(12, 13, 14), 27, x -> x.fold());
        Edge.of("35: of 64, the most", () -> {
            ProvenRecord x = Edge.full();
            int folded = 63;
            for (int k = 62; k >= 0; k--) {
                folded = Due.join(101, k, folded);
            }
            Due.answered("fold", x, x.fold(), folded);
        });
    }

    private static void steps() {
        Edge.gives("36: one alone", Edge::fresh, 0, x -> x.steps(0, 1));
        Edge.gives("36: of two", Edge::fresh, 1, x -> x.steps(0, 2), x -> x.steps(1, 2));
        Edge.gives("36: the last of a power of 2 and one", Edge::fresh, 1, x -> x.steps(4, 5), x -> x.steps(1 << 30, (1 << 30) + 1));
        Edge.gives("36: of a power of 2: the first, the last", Edge::fresh, 30, x -> x.steps(0, 1 << 30),
            x -> x.steps((1 << 30) - 1, 1 << 30));
        Edge.gives("36: of the most: the first", Edge::fresh, 31, x -> x.steps(0, MOST), x -> x.steps((1 << 30) - 1, MOST));
        Edge.gives("36: of the most: the last", Edge::fresh, 30, x -> x.steps(MOST - 1, MOST));
        Edge.refused("36: (1: i below 0)", Edge::rich, 1, x -> x.steps(-1, 5), x -> x.steps(LEAST, 5), x -> x.steps(-1, -1));
        Edge.refused("36: (1: i not below n)", Edge::rich, 1, x -> x.steps(5, 5), x -> x.steps(0, 0), x -> x.steps(0, -1),
            x -> x.steps(MOST, MOST), x -> x.steps(0, LEAST));
    }

    private static void climbs() {
        Edge.gives("37: from 0, from n", Edge::fresh, 0, x -> x.climbs(0, 0), x -> x.climbs(0, 1), x -> x.climbs(1, 1),
            x -> x.climbs(0, MOST), x -> x.climbs(MOST, MOST));
        Edge.gives("37: whole: a power of 2 to one more, to twice as many", Edge::fresh, 1, x -> x.climbs(1, 2),
            x -> x.climbs(4, 5), x -> x.climbs(4, 8), x -> x.climbs(1 << 30, MOST));
        Edge.gives("37: from 1 to a power of 2", Edge::fresh, 30, x -> x.climbs(1, 1 << 30));
        Edge.gives("37: from 1 to the most, from one less than that", Edge::fresh, 31, x -> x.climbs(1, MOST),
            x -> x.climbs(MOST - 1, MOST));
        Edge.refused("37: (1: m below 0)", Edge::rich, 1, x -> x.climbs(-1, 5), x -> x.climbs(LEAST, 5), x -> x.climbs(-1, -1));
        Edge.refused("37: (1: m above n)", Edge::rich, 1, x -> x.climbs(6, 5), x -> x.climbs(1, 0), x -> x.climbs(0, -1),
            x -> x.climbs(MOST, MOST - 1), x -> x.climbs(0, LEAST));
    }
}
