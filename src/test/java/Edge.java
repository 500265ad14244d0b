import java.util.List;

/** Tests of edges: each one is of one sentence of the document, on objects of its own, and is told by its words. */
final class Edge {
    static final int LEAST = Integer.MIN_VALUE;
    static final int MOST = Integer.MAX_VALUE;
    static final String FIVE = "mod 101;add a;add b;add c;add d;add e;";

    private static int edges = 0;
    private static int broken = 0;

    interface Made {
        ProvenRecord make();
    }

    interface Call {
        int on(ProvenRecord x);
    }

    private Edge() {
    }

    /** One test; it is broken if an answer in it is not as due, if it has none, or if a call throws. */
    static void of(String sentence, Runnable test) {
        edges++;
        int wrong = Due.wrong();
        int seen = Due.seen();
        try {
            test.run();
        } catch (RuntimeException | StackOverflowError e) {
            Due.due(e.toString(), 0, 1);
        }
        if (Due.seen() == seen) {
            Due.due("a test without an answer", 0, 1);
        }
        if (Due.wrong() != wrong) {
            broken++;
            System.out.println("  ^ broken: " + sentence);
        }
    }

    /** Each call, on an object of its own, is answered so, with STATUS 0. */
    static void gives(String sentence, Made made, int want, Call... calls) {
        of(sentence, () -> {
            for (int k = 0; k < calls.length; k++) {
                ProvenRecord x = made.make();
                Due.answered("call " + k, x, calls[k].on(x), want);
            }
        });
    }

    /** Each call, on an object of its own, is refused with a STATUS, and all there is stays as it was. */
    static void refused(String sentence, Made made, int status, Call... calls) {
        of(sentence, () -> {
            List<String> due = Look.at(made.make());
            for (int k = 0; k < calls.length; k++) {
                ProvenRecord x = made.make();
                Due.refused("call " + k, x, calls[k].on(x), status);
                same("call " + k, Look.at(x), due);
            }
        });
    }

    /** Each call is answered, and all there is stays as it was. */
    static void leaves(String sentence, Made made, Call... calls) {
        of(sentence, () -> {
            List<String> due = Look.at(made.make());
            for (int k = 0; k < calls.length; k++) {
                ProvenRecord x = made.make();
                calls[k].on(x);
                Due.due("call " + k + ", status()", x.status(), 0);
                same("call " + k, Look.at(x), due);
            }
        });
    }

    static void same(String call, List<String> got, List<String> due) {
        Due.due(call + ", how much there is", got.size(), due.size());
        for (int k = 0; k < Math.min(got.size(), due.size()); k++) {
            if (!got.get(k).equals(due.get(k))) {
                Due.due(call + " left " + got.get(k) + ", but it was " + due.get(k), 0, 1);
                return;
            }
        }
    }

    static void end() {
        System.out.println(edges + " edges, " + broken + " of them broken");
        Due.end();
    }

    static ProvenRecord fresh() {
        return new ProvenRecord();
    }

    static ProvenRecord five() {
        return Due.loaded(FIVE);
    }

    static Made loaded(String text) {
        return () -> Due.loaded(text);
    }

    /**
     * Some of all: M 101; RECORD 0 is a, b, c, d, e, RECORD 1 is a, b, c, z, y; FROZEN are 3 and 5 of 0, and 5 of 1; the
     * WATCHERS TRUST 3 of 0, 5 of 0 (ALARMED by 5 of 1), 4 of 1, and nothing; 15 ACTS; the PAD has 7, 8, 9; ab is typed;
     * two STATEMENTS were heard, one TAKEN; OUT has 29 bytes, and the tape 20. HEADS of 0: 0, 12, 39, 93, 44, 89; of 1
     * from 4 on: 66, 10.
     */
    static ProvenRecord rich() {
        ProvenRecord x = Due.loaded("mod 101;add a;add b;add c;freeze;add d;add e;freeze;show 0 3;show 1 5;fork 3;add z;"
            + "add y;freeze;show 2 4;show 1 5;");
        Due.type(x, "ab");
        x.hear(Due.feed(x, "in 0 of 1 mark 1 head 2 by;in 0 of 1 mark 1 head 1 by;"));
        x.tell(0, 0, 1);
        Due.setPad(x, 7, 8, 9);
        Due.feed(x, "add q;add r;        ");
        return x;
    }

    /** As much as there may be: 4 RECORDS of 48 ENTRIES, 16 FROZEN, 64 MARKS on the PAD, 900 bytes on the tape. */
    static ProvenRecord full() {
        ProvenRecord x = Due.loaded("mod 101;" + "add a;".repeat(48) + "freeze;".repeat(16) + "show 3 48;fork 48;fork 48;fork 48;");
        Due.type(x, "abcdefgh");
        for (int k = 0; k < 64; k++) {
            x.push(k);
        }
        Due.feed(x, "add q;" + " ".repeat(894));
        return x;
    }
}
