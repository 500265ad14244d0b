import java.util.ArrayList;
import java.util.List;

/** All that can be asked of an object, in some 350 calls at most: what a refused call leaves as it was. */
final class Look {
    private final ProvenRecord x;
    private final List<String> seen = new ArrayList<>();

    private Look(ProvenRecord x) {
        this.x = x;
    }

    /** All of it. To see the tape is to use it up, so the object is of no more use. */
    static List<String> at(ProvenRecord x) {
        Look look = new Look(x);
        look.whatThereIs();
        look.put("fault(0)", x.fault(0));
        look.put("fault(1)", x.fault(1));
        look.tape();
        return look.seen;
    }

    /** What load() and hear() with STATUS 9 leave as it was: all but the tape and what fault() tells. */
    static List<String> butTapeAndFault(ProvenRecord x) {
        Look look = new Look(x);
        look.whatThereIs();
        return look.seen;
    }

    private int put(String call, int answer) {
        seen.add(call + " = " + answer);
        return answer;
    }

    private void whatThereIs() {
        for (int what = 0; what < 6; what++) {
            put("many(" + what + ")", x.many(what));
        }
        put("mark()", x.mark());
        for (int record = 0; record < x.many(0); record++) {
            record(record);
        }
        for (int i = 0; i < x.many(3); i++) {
            for (int what = 0; what < 4; what++) {
                put("frozen(" + i + ", " + what + ")", x.frozen(i, what));
            }
            put("sick(" + i + ")", x.sick(i));
        }
        for (int watcher = 0; watcher < 4; watcher++) {
            for (int what = 0; what < 4; what++) {
                put("watcher(" + watcher + ", " + what + ")", x.watcher(watcher, what));
            }
        }
        rows();
    }

    private void record(int record) {
        int size = put("size(" + record + ")", x.size(record));
        put("head(" + record + ", all)", x.head(record, size));
        for (int i = 0; i < size; i += i < 5 ? 1 : 42) {
            put("letters of " + i, x.entry(record, i, 0));
            put("the MARK of " + i, x.entry(record, i, 1));
            put("the first letter of " + i, x.entry(record, i, 2));
        }
    }

    private void rows() {
        int marks = x.many(2);
        for (int k = 0; k < marks; k++) {
            put("pad(" + k + ")", x.pad(k));
        }
        for (int k = 0; k < 20 && put("heard(" + k + ")", x.heard(k)) >= 0; k++) {
            continue;
        }
        for (int i = 0; i < 60 && put("out(" + i + ")", x.out(i)) >= 0; i++) {
            continue;
        }
    }

    private void tape() {
        int blanks = 0x20202020;
        int bytes = put("bytes on the tape, and 20", x.feed(blanks, blanks, blanks, blanks, blanks));
        put("load() of the tape", x.load(bytes < 0 ? 900 : bytes));
        put("status()", x.status());
        put("fault(0)", x.fault(0));
        put("fault(1)", x.fault(1));
        put("size(0)", x.size(0));
        put("the last letter", x.entry(0, x.size(0) - 1, 2));
    }
}
