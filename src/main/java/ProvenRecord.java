/** A record to which things are only ever added, with proofs. ../shared/DOC.md numbers what each call promises. */
public final class ProvenRecord {
    public static final int NONE = -1;

    private static final int MOST_RECORDS = 4;
    private static final int MOST_ENTRIES = 48;
    private static final int MOST_LETTERS = 8;
    private static final int MOST_MARKS = 64;
    private static final int MOST_FROZEN = 16;
    private static final int MOST_STATEMENTS = 20;
    private static final int MOST_BYTES = 900;
    private static final int MOST_THINGS_EXTENDED = 1000000;
    private static final int MOST_THINGS_LISTED = 512;
    private static final int WATCHERS = 4;
    private static final int LETTERS = 26;
    private static final int SET_THINGS = 30;
    private static final int LEAST_M = 101;
    private static final int GREATEST_M = 65521;

    // 2 mixed with x, less x: 2 * 2 + 3 * 2 + 7.
    private static final long TWO_MIXED = 17L;

    // No tree of int-many things is deeper than 32, so a walk down one that is longer has gone astray.
    private static final int MOST_DEPTH = 40;
    private static final int OUT_BYTES = 256;
    private static final int MOST_LINKS = 256;

    private static final int FINE = 0;
    private static final int WRONG_NUMBER = 1;
    private static final int NO_SUCH = 2;
    private static final int TOO_MANY = 3;
    private static final int NOT_THERE = 5;
    private static final int FAULTY = 9;

    private static final int WHY_TOO_FEW = 1;
    private static final int WHY_TOO_MANY = 2;
    private static final int WHY_OLDER = 3;
    private static final int WHY_NEWER = 4;
    private static final int WHY_NONE = 5;

    private int status = FINE;
    private World world = new World();
    // load() builds here first, so that a text with a FAULT leaves the world as it was.
    private World spare = new World();
    private final Row pad = new Row();
    private final byte[] tape = new byte[MOST_BYTES];
    private int tapeCount = 0;
    private Word typed = new Word();
    private Word untyped = new Word();
    private Row heardWhys = new Row();
    private Row hearingWhys = new Row();
    private final byte[] told = new byte[OUT_BYTES];
    private int toldCount = 0;
    private final Way way = new Way();
    private final Way otherWay = new Way();
    private final Row proof = new Row();
    private final Bundle bundling = new Bundle();
    private final Reader reader = new Reader();
    private final int[] links = new int[MOST_LINKS];
    // By far the largest rows: made only when the first WEAK or forged MARK is asked for.
    private Roots roots = null;

    public ProvenRecord() {
    }

    public int status() {
        return status;
    }

    public int feed(int a, int b, int c, int d, int e) {
        if (tapeCount + 20 > MOST_BYTES) {
            return NONE;
        }
        putOnTape(a);
        putOnTape(b);
        putOnTape(c);
        putOnTape(d);
        putOnTape(e);
        return tapeCount;
    }

    public int load(int n) {
        if (n < 0 || n > tapeCount) {
            return refuse(WRONG_NUMBER);
        }
        spare.renew();
        boolean read = loadLines(n);
        tapeCount = 0;
        if (!read) {
            return refuse(FAULTY);
        }
        World older = world;
        world = spare;
        spare = older;
        pad.shorten(0);
        return answer(world.logCount);
    }

    public int hear(int n) {
        if (n < 0 || n > tapeCount) {
            return refuse(WRONG_NUMBER);
        }
        reader.begin(tape, n);
        boolean read = reader.readProofs(world.modulus, hearingWhys);
        tapeCount = 0;
        if (!read) {
            return refuse(FAULTY);
        }
        Row older = heardWhys;
        heardWhys = hearingWhys;
        hearingWhys = older;
        return answer(heardWhys.countOf(0));
    }

    public int heard(int k) {
        if (k < 0) {
            return refuse(WRONG_NUMBER);
        }
        if (k >= heardWhys.count) {
            return refuse(NOT_THERE);
        }
        return answer(heardWhys.at(k));
    }

    public int fault(int what) {
        if (what == 0) {
            return reader.faultKind;
        }
        return what == 1 ? reader.faultPlace : NONE;
    }

    public int type(int a, int b) {
        untyped.clear();
        for (int k = 0; k < MOST_LETTERS; k++) {
            int letter = k < 6 ? (a >>> (5 * k)) & 31 : (b >>> (5 * (k - 6))) & 31;
            if (letter == 0) {
                break;
            }
            if (letter > LETTERS) {
                return NONE;
            }
            untyped.put(letter);
        }
        Word older = typed;
        typed = untyped;
        untyped = older;
        return typed.length;
    }

    // ---- what there is

    public int many(int what) {
        switch (what) {
            case 0:
                return answer(world.logCount);
            case 1:
                return answer(world.modulus);
            case 2:
                return answer(pad.count);
            case 3:
                return answer(world.frozenCount);
            case 4:
                return answer(world.acts);
            case 5:
                return answer(world.alarmedBits());
            default:
                return refuse(WRONG_NUMBER);
        }
    }

    public int size(int record) {
        Log log = world.logAt(record);
        return log == null ? refuse(NO_SUCH) : answer(log.length);
    }

    public int entry(int record, int i, int what) {
        if (i < 0 || what < 0) {
            return refuse(WRONG_NUMBER);
        }
        Log log = world.logAt(record);
        if (log == null) {
            return refuse(NO_SUCH);
        }
        Word word = log.wordAt(i);
        if (word == null) {
            return refuse(NOT_THERE);
        }
        if (what == 0) {
            return answer(word.length);
        }
        if (what == 1) {
            return answer(log.markAt(i));
        }
        return what - 2 < word.length ? answer(word.letterAt(what - 2)) : refuse(NOT_THERE);
    }

    public int head(int record, int size) {
        Log log = world.logAt(record);
        int wrong = wrongGrowth(log, 0, size);
        return wrong != FINE ? refuse(wrong) : answer(world.headOf(log, size));
    }

    public int join(int first, int second) {
        if (!isMark(first) || !isMark(second)) {
            return refuse(WRONG_NUMBER);
        }
        return answer(markOfTwo(world.modulus, first, second));
    }

    public int mark() {
        return answer(typed.markBy(world.modulus));
    }

    public int frozen(int i, int what) {
        if (i < 0 || what < 0 || what > 4) {
            return refuse(WRONG_NUMBER);
        }
        Frozen one = world.frozenAt(i);
        if (one == null) {
            return refuse(NOT_THERE);
        }
        switch (what) {
            case 0:
                return answer(one.record);
            case 1:
                return answer(one.size);
            case 2:
                return answer(one.mark);
            case 3:
                return answer(one.tick);
            default:
                return answer(world.isSound(one) ? 1 : 0);
        }
    }

    public int watcher(int watcher, int what) {
        if (what < 0 || what > 3) {
            return refuse(WRONG_NUMBER);
        }
        Watcher one = world.watcherAt(watcher);
        if (one == null) {
            return refuse(NO_SUCH);
        }
        switch (what) {
            case 0:
                return answer(one.size);
            case 1:
                return answer(one.head);
            case 2:
                return answer(one.alarmed ? 1 : 0);
            default:
                return answer(one.timesShown);
        }
    }

    // ---- ACTS

    public int add(int record) {
        Log log = world.logAt(record);
        if (log == null) {
            return refuse(NO_SUCH);
        }
        if (log.length >= MOST_ENTRIES) {
            return refuse(TOO_MANY);
        }
        world.addWord(log, typed);
        return answer(log.length - 1);
    }

    public int fork(int record, int size) {
        if (size < 0) {
            return refuse(WRONG_NUMBER);
        }
        Log log = world.logAt(record);
        if (log == null) {
            return refuse(NO_SUCH);
        }
        if (world.logCount >= MOST_RECORDS) {
            return refuse(TOO_MANY);
        }
        if (size > log.length) {
            return refuse(NOT_THERE);
        }
        return answer(world.forkLog(log, size));
    }

    public int freeze(int record) {
        if (world.logAt(record) == null) {
            return refuse(NO_SUCH);
        }
        if (world.frozenCount >= MOST_FROZEN) {
            return refuse(TOO_MANY);
        }
        return answer(world.freezeHead(record));
    }

    public int show(int watcher, int record, int size) {
        if (size < 0) {
            return refuse(WRONG_NUMBER);
        }
        Watcher one = world.watcherAt(watcher);
        Log log = world.logAt(record);
        if (one == null || log == null) {
            return refuse(NO_SUCH);
        }
        if (size > log.length) {
            return refuse(NOT_THERE);
        }
        return answer(world.showTo(one, log, size));
    }

    public int meet(int watcher, int other, int record) {
        Watcher one = world.watcherAt(watcher);
        Watcher another = world.watcherAt(other);
        Log log = world.logAt(record);
        if (one == null || another == null || log == null) {
            return refuse(NO_SUCH);
        }
        return answer(world.meetBy(one, another, log));
    }

    public int spoil(int record, int i, int k, int letter) {
        if (letter < 1 || letter > LETTERS || i < 0 || k < 0) {
            return refuse(WRONG_NUMBER);
        }
        Log log = world.logAt(record);
        if (log == null) {
            return refuse(NO_SUCH);
        }
        Word word = log.wordAt(i);
        if (word == null || k >= word.length || word.letterAt(k) == letter) {
            return refuse(NOT_THERE);
        }
        int older = word.letterAt(k);
        world.spoilLetter(log, i, k, letter);
        return answer(older);
    }

    // ---- the PAD

    public int push(int mark) {
        if (!isMark(mark)) {
            return refuse(WRONG_NUMBER);
        }
        if (pad.count >= MOST_MARKS) {
            return refuse(TOO_MANY);
        }
        pad.put(mark);
        return answer(pad.count);
    }

    public int poke(int k, int mark) {
        if (k < 0 || !isMark(mark)) {
            return refuse(WRONG_NUMBER);
        }
        if (k >= pad.count) {
            return refuse(NOT_THERE);
        }
        int older = pad.at(k);
        pad.change(k, mark);
        return answer(older);
    }

    public int pad(int k) {
        if (k < 0) {
            return refuse(WRONG_NUMBER);
        }
        return k < pad.count ? answer(pad.at(k)) : refuse(NOT_THERE);
    }

    public int cut(int n) {
        if (n < 0) {
            return refuse(WRONG_NUMBER);
        }
        if (n > pad.count) {
            return refuse(NOT_THERE);
        }
        pad.shorten(n);
        return answer(n);
    }

    public int include(int record, int i, int n) {
        Log log = world.logAt(record);
        int wrong = wrongInclusion(log, i, n);
        if (wrong != FINE) {
            return refuse(wrong);
        }
        way.toThing(i, n);
        world.marksAlong(way, log, pad);
        return answer(pad.count);
    }

    public int grow(int record, int m, int n) {
        Log log = world.logAt(record);
        int wrong = wrongGrowth(log, m, n);
        if (wrong != FINE) {
            return refuse(wrong);
        }
        way.toGrowth(m, n);
        world.marksAlong(way, log, pad);
        return answer(pad.count);
    }

    public int bundle(int record, int set, int n) {
        if (n < 0 || !isSet(set)) {
            return refuse(WRONG_NUMBER);
        }
        Log log = world.logAt(record);
        if (log == null) {
            return refuse(NO_SUCH);
        }
        if (n > log.length || !lieBelow(set, n)) {
            return refuse(NOT_THERE);
        }
        way.toBundle(set, n);
        world.marksAlong(way, log, pad);
        return answer(pad.count);
    }

    public int peaks(int record, int n) {
        Log log = world.logAt(record);
        int wrong = wrongGrowth(log, 0, n);
        if (wrong != FINE) {
            return refuse(wrong);
        }
        world.peaksOf(log, n, pad);
        return answer(pad.count);
    }

    public int extend(int m, int mark) {
        if (m < 0 || m > MOST_THINGS_EXTENDED || !isMark(mark)) {
            return refuse(WRONG_NUMBER);
        }
        if (pad.count != Integer.bitCount(m)) {
            return refuse(NOT_THERE);
        }
        pad.putPeak(world.modulus, m, mark);
        return answer(pad.count);
    }

    // ---- the VERIFIER

    public int checks(int mark, int i, int n, int head) {
        if (!isThing(i, n) || !isMark(mark) || !isMark(head)) {
            return refuse(WRONG_NUMBER);
        }
        way.toThing(i, n);
        return answer(way.whyInclusion(world.modulus, pad, mark, head));
    }

    public int growth(int m, int older, int n, int newer) {
        if (m < 0 || m > n || !isMark(older) || !isMark(newer)) {
            return refuse(WRONG_NUMBER);
        }
        return answer(way.whyGrowth(world.modulus, pad, m, older, n, newer));
    }

    public int bundled(int set, int n, int head) {
        if (!isSet(set) || !lieBelow(set, n) || !isMark(head)) {
            return refuse(WRONG_NUMBER);
        }
        way.toBundle(set, n);
        return answer(bundling.why(world.modulus, pad, set, n, way.count, head));
    }

    public int fold() {
        return answer(pad.foldedPeaks(world.modulus));
    }

    public int steps(int i, int n) {
        if (!isThing(i, n)) {
            return refuse(WRONG_NUMBER);
        }
        way.toThing(i, n);
        return answer(way.count);
    }

    public int climbs(int m, int n) {
        if (m < 0 || m > n) {
            return refuse(WRONG_NUMBER);
        }
        way.toGrowth(m, n);
        return answer(way.count);
    }

    // ---- who was shown what; what is weak

    public int agree(int watcher, int other) {
        Watcher one = world.watcherAt(watcher);
        Watcher another = world.watcherAt(other);
        if (one == null || another == null) {
            return refuse(NO_SUCH);
        }
        return answer(world.doAgree(one, another) ? 1 : 0);
    }

    public int where(int record, int what) {
        if (what < 0 || what > 1) {
            return refuse(WRONG_NUMBER);
        }
        Log log = world.logAt(record);
        if (log == null) {
            return refuse(NO_SUCH);
        }
        if (what == 1) {
            return answer(log.countLike(typed));
        }
        int first = log.firstLike(typed);
        return first < 0 ? refuse(NOT_THERE) : answer(first);
    }

    public int tree(int record, int n, int k, int what) {
        if (k < 0 || what < 0 || what > 2) {
            return refuse(WRONG_NUMBER);
        }
        Log log = world.logAt(record);
        int wrong = wrongGrowth(log, 0, n);
        if (wrong != FINE) {
            return refuse(wrong);
        }
        if (k > 2 * n - 2) {
            return refuse(NOT_THERE);
        }
        way.toTree(k, n);
        if (what == 0) {
            return answer(way.firstAt(0));
        }
        return answer(what == 1 ? way.manyAt(0) : world.treeMark(log, way.firstAt(0), way.manyAt(0)));
    }

    public int proves(int i, int j) {
        if (i < 0 || j < 0) {
            return refuse(WRONG_NUMBER);
        }
        Frozen older = world.frozenAt(i);
        Frozen newer = world.frozenAt(j);
        if (older == null || newer == null || older.size > newer.size) {
            return refuse(NOT_THERE);
        }
        Log log = world.logAt(newer.record);
        return answer(world.whyGrown(log, older.size, older.mark, newer.size, newer.mark));
    }

    public int longest(int n, int what) {
        if (n < 1 || n > MOST_THINGS_LISTED || what < 0 || what > 2) {
            return refuse(WRONG_NUMBER);
        }
        int most = 0;
        int first = 0;
        int all = 0;
        for (int i = 0; i < n; i++) {
            way.toThing(i, n);
            all += way.count;
            if (way.count > most) {
                most = way.count;
                first = i;
            }
        }
        if (what == 0) {
            return answer(most);
        }
        return answer(what == 1 ? first : all);
    }

    public int part(int record, int other, int what) {
        if (what < 0 || what > 1) {
            return refuse(WRONG_NUMBER);
        }
        Log one = world.logAt(record);
        Log another = world.logAt(other);
        if (one == null || another == null) {
            return refuse(NO_SUCH);
        }
        return answer(what == 0 ? world.partingEntry(one, another) : world.partingCompared(one, another));
    }

    public int blame(int record, int what) {
        if (what < 0 || what > 2) {
            return refuse(WRONG_NUMBER);
        }
        if (world.logAt(record) == null) {
            return refuse(NO_SUCH);
        }
        if (what == 2) {
            return answer(world.countUnsound(record));
        }
        int least = world.leastUnsound(record);
        return answer(what == 0 || least == NONE ? least : world.greatestSoundBelow(record, least));
    }

    public int weak(int record, int i, int n, int what) {
        if (what < 0 || what > 1) {
            return refuse(WRONG_NUMBER);
        }
        Log log = world.logAt(record);
        int wrong = wrongInclusion(log, i, n);
        if (wrong != FINE || log == null) {
            return refuse(wrong);
        }
        way.toThing(i, n);
        world.marksAlong(way, log, proof);
        Roots search = preparedRoots();
        search.seekThing(way, proof, log.markAt(i), world.headOf(log, n));
        if (what == 0) {
            return answer(search.found);
        }
        return search.found == 0 ? refuse(NOT_THERE) : answer(search.lowest);
    }

    public int clash(int record, int i, int n, int mark, int what) {
        if (what < 0 || what > 4 || !isMark(mark)) {
            return refuse(WRONG_NUMBER);
        }
        Log log = world.logAt(record);
        int wrong = wrongInclusion(log, i, n);
        if (wrong != FINE || log == null) {
            return refuse(wrong);
        }
        way.toThing(i, n);
        if (way.whyInclusion(world.modulus, pad, mark, world.headOf(log, n)) != 0) {
            return refuse(NOT_THERE);
        }
        world.marksAlong(way, log, proof);
        int step = clashingStep(log.markAt(i), mark);
        if (step < 0) {
            return refuse(NOT_THERE);
        }
        if (what == 0) {
            return answer(step);
        }
        boolean byRecord = what <= 2;
        Row row = byRecord ? proof : pad;
        int folded = way.folded(world.modulus, row, byRecord ? log.markAt(i) : mark, step);
        boolean first = what == 1 || what == 3;
        return answer(first == way.isAhead(step) ? row.at(step) : folded);
    }

    public int forge(int mark, int i, int n, int head, int k) {
        if (!isThing(i, n) || k < 0 || !isMark(mark) || !isMark(head)) {
            return refuse(WRONG_NUMBER);
        }
        way.toThing(i, n);
        if (pad.count != way.count || k >= pad.count) {
            return refuse(NOT_THERE);
        }
        Roots search = preparedRoots();
        search.seekStep(way, pad, way.folded(world.modulus, pad, mark, k), head, k);
        return search.found == 0 ? refuse(NOT_THERE) : answer(search.lowest);
    }

    public int trace(int mark, int i, int n, int k) {
        if (!isThing(i, n) || k < 0 || !isMark(mark)) {
            return refuse(WRONG_NUMBER);
        }
        way.toThing(i, n);
        if (k > way.count || k > pad.count) {
            return refuse(NOT_THERE);
        }
        return answer(way.folded(world.modulus, pad, mark, k));
    }

    public int span(int i, int n, int k, int what) {
        if (!isThing(i, n) || k < 0 || what < 0 || what > 1) {
            return refuse(WRONG_NUMBER);
        }
        way.toThing(i, n);
        return treeOfWay(k, what);
    }

    public int rise(int m, int n, int k, int what) {
        if (m < 0 || m > n || k < 0 || what < 0 || what > 1) {
            return refuse(WRONG_NUMBER);
        }
        way.toGrowth(m, n);
        return treeOfWay(k, what);
    }

    public int kept(int i, int n, int r) {
        if (!isThing(i, n) || r < n) {
            return refuse(WRONG_NUMBER);
        }
        way.toThing(i, n);
        otherWay.toThing(i, r);
        return answer(way.countShared(otherWay));
    }

    public int sick(int i) {
        if (i < 0) {
            return refuse(WRONG_NUMBER);
        }
        Frozen one = world.frozenAt(i);
        return one == null ? refuse(NOT_THERE) : answer(world.sickBits(one, proof));
    }

    public int chain(int record, int what) {
        if (what < 0 || what > 2) {
            return refuse(WRONG_NUMBER);
        }
        if (world.logAt(record) == null) {
            return refuse(NO_SUCH);
        }
        int heads = 0;
        int marks = 0;
        int linkCount = 0;
        int older = NONE;
        for (int k = 0; k <= MOST_FROZEN; k++) {
            int newer = world.leastFrozenAbove(record, older);
            if (newer == NONE) {
                break;
            }
            heads++;
            if (older != NONE) {
                way.toGrowth(older, newer);
                marks += way.count;
                linkCount = addLinks(linkCount);
            }
            older = newer;
        }
        if (what == 0) {
            return answer(heads);
        }
        return answer(what == 1 ? marks : linkCount);
    }

    public int split(int what) {
        if (what < 0 || what > 1) {
            return refuse(WRONG_NUMBER);
        }
        int couples = 0;
        int first = NONE;
        for (int a = 0; a < WATCHERS; a++) {
            for (int b = a + 1; b < WATCHERS; b++) {
                if (!world.doAgree(world.watcherAt(a), world.watcherAt(b))) {
                    first = couples == 0 ? 10 * a + b : first;
                    couples++;
                }
            }
        }
        if (what == 0) {
            return answer(couples);
        }
        return couples == 0 ? refuse(NOT_THERE) : answer(first);
    }

    public int tell(int record, int i, int n) {
        Log log = world.logAt(record);
        int wrong = wrongInclusion(log, i, n);
        if (wrong != FINE || log == null) {
            return refuse(wrong);
        }
        way.toThing(i, n);
        world.marksAlong(way, log, proof);
        toldCount = 0;
        tellText("in ");
        tellNumber(i);
        tellText(" of ");
        tellNumber(n);
        tellText(" mark ");
        tellNumber(log.markAt(i));
        tellText(" head ");
        tellNumber(world.headOf(log, n));
        tellProof();
        return answer(toldCount);
    }

    public int tellGrowth(int record, int m, int n) {
        Log log = world.logAt(record);
        int wrong = wrongGrowth(log, m, n);
        if (wrong != FINE) {
            return refuse(wrong);
        }
        way.toGrowth(m, n);
        world.marksAlong(way, log, proof);
        toldCount = 0;
        tellText("grow ");
        tellNumber(m);
        tellText(" mark ");
        tellNumber(world.headOf(log, m));
        tellText(" to ");
        tellNumber(n);
        tellText(" head ");
        tellNumber(world.headOf(log, n));
        tellProof();
        return answer(toldCount);
    }

    public int out(int i) {
        if (i < 0) {
            return refuse(WRONG_NUMBER);
        }
        return i < toldCount && i < told.length ? answer(told[i]) : refuse(NOT_THERE);
    }

    public int trusted(int size, int head) {
        if (size < 0 || !isMark(head)) {
            return refuse(WRONG_NUMBER);
        }
        int count = 0;
        for (int k = 0; k < WATCHERS; k++) {
            Watcher one = world.watcherAt(k);
            if (one != null && one.size == size && one.head == head) {
                count++;
            }
        }
        return answer(count);
    }

    public int saves(int set, int n) {
        if (!isSet(set) || !lieBelow(set, n)) {
            return refuse(WRONG_NUMBER);
        }
        int alone = 0;
        for (int i = 0; i < SET_THINGS; i++) {
            if (hasOneOf(set, i, 1)) {
                way.toThing(i, n);
                alone += way.count;
            }
        }
        way.toBundle(set, n);
        return answer(alone - way.count);
    }

    public int who(int size, int head) {
        if (size < 0 || !isMark(head)) {
            return refuse(WRONG_NUMBER);
        }
        int bits = 0;
        for (int k = 0; k < world.logCount; k++) {
            if (world.hasHead(world.logAt(k), size, head)) {
                bits |= 1 << k;
            }
        }
        return answer(bits);
    }

    private int answer(int value) {
        status = FINE;
        return value;
    }

    private int refuse(int why) {
        status = why;
        return NONE;
    }

    private void putOnTape(int four) {
        for (int shift = 24; shift >= 0; shift -= 8) {
            if (tapeCount >= 0 && tapeCount < tape.length) {
                tape[tapeCount] = (byte) (four >>> shift);
                tapeCount++;
            }
        }
    }

    private boolean loadLines(int n) {
        reader.begin(tape, n);
        if (!reader.readModulus(spare)) {
            return false;
        }
        int atHand = 0;
        for (int k = 0; k < MOST_BYTES && !reader.isAtEnd(); k++) {
            Log log = spare.logAt(atHand);
            if (log == null || !reader.readLine(spare, log)) {
                return false;
            }
            switch (reader.line) {
                case Reader.ADD:
                    spare.addWord(log, reader.word);
                    break;
                case Reader.TO:
                    atHand = reader.number;
                    break;
                case Reader.FORK:
                    atHand = spare.forkLog(log, reader.number);
                    break;
                case Reader.FREEZE:
                    spare.freezeHead(atHand);
                    break;
                default:
                    spare.showTo(spare.watcherAt(reader.watcher), log, reader.number);
                    break;
            }
        }
        return true;
    }

    private boolean isMark(int mark) {
        return mark >= 0 && mark < world.modulus;
    }

    private static boolean isThing(int i, int n) {
        return i >= 0 && i < n;
    }

    private static boolean isSet(int set) {
        return set > 0;
    }

    // A set is of things 0 to 29: an int has a bit for 30, too, but that is none of the things, however many there are.
    private static boolean lieBelow(int set, int n) {
        return Integer.highestOneBit(set) < 1 << Math.max(0, Math.min(n, SET_THINGS));
    }

    private static int wrongInclusion(Log log, int i, int n) {
        if (i < 0 || n < 0) {
            return WRONG_NUMBER;
        }
        if (log == null) {
            return NO_SUCH;
        }
        return n > log.length || i >= n ? NOT_THERE : FINE;
    }

    private static int wrongGrowth(Log log, int m, int n) {
        if (m < 0 || m > n) {
            return WRONG_NUMBER;
        }
        if (log == null) {
            return NO_SUCH;
        }
        return n > log.length ? NOT_THERE : FINE;
    }

    private Roots preparedRoots() {
        if (roots == null) {
            roots = new Roots();
        }
        roots.prepare(world.modulus);
        return roots;
    }

    /** Both INCLUSIONS along the way are TAKEN by one HEAD: that of the RECORD (proof), and the PAD's. */
    private int clashingStep(int markByRecord, int markByPad) {
        int one = markByRecord;
        int another = markByPad;
        for (int step = 0; step < way.count; step++) {
            boolean unlike = one != another || proof.at(step) != pad.at(step);
            one = way.joined(world.modulus, step, one, proof.at(step));
            another = way.joined(world.modulus, step, another, pad.at(step));
            if (unlike && one == another) {
                return step;
            }
        }
        return NONE;
    }

    private int treeOfWay(int k, int what) {
        if (k >= way.count) {
            return refuse(NOT_THERE);
        }
        return answer(what == 0 ? way.firstAt(k) : way.manyAt(k));
    }

    private int addLinks(int linkCount) {
        int count = linkCount;
        for (int k = 0; k < way.count; k++) {
            int link = way.firstAt(k) * MOST_MARKS + way.manyAt(k);
            if (!isLink(link, count) && count >= 0 && count < links.length) {
                links[count] = link;
                count++;
            }
        }
        return count;
    }

    private boolean isLink(int link, int count) {
        for (int k = 0; k < count && k < links.length; k++) {
            if (links[k] == link) {
                return true;
            }
        }
        return false;
    }

    private void tellByte(int letter) {
        if (toldCount >= 0 && toldCount < told.length) {
            told[toldCount] = (byte) letter;
            toldCount++;
        }
    }

    private void tellText(String text) {
        for (int k = 0; k < text.length(); k++) {
            tellByte(text.charAt(k));
        }
    }

    private void tellNumber(int number) {
        int power = 1;
        for (int k = 0; k < 8 && number / 10 >= power; k++) {
            power *= 10;
        }
        for (; power > 0; power /= 10) {
            tellByte('0' + number / power % 10);
        }
    }

    private void tellProof() {
        tellText(" by");
        for (int k = 0; k < proof.count; k++) {
            tellText(" ");
            tellNumber(proof.at(k));
        }
        tellText(";");
    }

    private static int mixed(int modulus, int h, int x) {
        if (modulus <= 0) {
            return 0;
        }
        return (int) (((long) h * h + 3L * h + x + 7L) % modulus);
    }

    // Written out, not mixed twice: every proof comes down to it, and calls stay flat.
    private static int markOfTwo(int modulus, int first, int second) {
        if (modulus <= 0) {
            return 0;
        }
        long h = (first + TWO_MIXED) % modulus;
        return (int) ((h * h + 3L * h + second + 7L) % modulus);
    }

    /** The greatest power of 2 that is less than how many there are (of two and more). */
    private static int firstPartOf(int many) {
        return many < 2 ? 0 : Integer.highestOneBit(many - 1);
    }

    private static boolean hasOneOf(int set, int first, int many) {
        if (first < 0 || first >= SET_THINGS || many <= 0) {
            return false;
        }
        int rest = set >>> first;
        return (many >= SET_THINGS ? rest : rest & ((1 << many) - 1)) != 0;
    }

    /** A row of MARKS, at most 64: the PAD, a proof, PEAKS; also the WHYs of what was heard. */
    private static final class Row {
        final int[] marks = new int[MOST_MARKS];
        int count = 0;

        int at(int k) {
            return k >= 0 && k < count && k < marks.length ? marks[k] : 0;
        }

        void put(int mark) {
            if (count >= 0 && count < marks.length) {
                marks[count] = mark;
                count++;
            }
        }

        void change(int k, int mark) {
            if (k >= 0 && k < count && k < marks.length) {
                marks[k] = mark;
            }
        }

        void shorten(int n) {
            if (n >= 0 && n < count) {
                count = n;
            }
        }

        int countOf(int mark) {
            int found = 0;
            for (int k = 0; k < count; k++) {
                if (at(k) == mark) {
                    found++;
                }
            }
            return found;
        }

        /** The row being PEAKS of m things: a thing more joins PEAKS of its own width, as in adding 1 to m. */
        void putPeak(int modulus, int m, int mark) {
            int peak = mark;
            int rest = m;
            for (int k = 0; k < 31 && (rest & 1) == 1; k++) {
                peak = markOfTwo(modulus, at(count - 1), peak);
                shorten(count - 1);
                rest >>>= 1;
            }
            put(peak);
        }

        int foldedPeaks(int modulus) {
            int folded = at(count - 1);
            for (int k = count - 2; k >= 0; k--) {
                folded = markOfTwo(modulus, at(k), folded);
            }
            return folded;
        }
    }

    /** At most 8 letters, 1 to 26. */
    private static final class Word {
        final byte[] letters = new byte[MOST_LETTERS];
        int length = 0;

        void clear() {
            length = 0;
        }

        void put(int letter) {
            if (length >= 0 && length < letters.length) {
                letters[length] = (byte) letter;
                length++;
            }
        }

        int letterAt(int k) {
            return k >= 0 && k < length && k < letters.length ? letters[k] : 0;
        }

        void change(int k, int letter) {
            if (k >= 0 && k < length && k < letters.length) {
                letters[k] = (byte) letter;
            }
        }

        void copy(Word other) {
            clear();
            for (int k = 0; k < other.length; k++) {
                put(other.letterAt(k));
            }
        }

        boolean isLike(Word other) {
            boolean like = length == other.length;
            for (int k = 0; k < length && like; k++) {
                like = letterAt(k) == other.letterAt(k);
            }
            return like;
        }

        int markBy(int modulus) {
            int h = 1;
            for (int k = 0; k < length; k++) {
                h = mixed(modulus, h, letterAt(k));
            }
            return h;
        }
    }

    /** The ENTRIES of one RECORD, with their MARKS. */
    private static final class Log {
        final Word[] words = new Word[MOST_ENTRIES];
        final int[] marks = new int[MOST_ENTRIES];
        int length = 0;

        Log() {
            for (int k = 0; k < words.length; k++) {
                words[k] = new Word();
            }
        }

        Word wordAt(int i) {
            return i >= 0 && i < length && i < words.length ? words[i] : null;
        }

        int markAt(int i) {
            return i >= 0 && i < length && i < marks.length ? marks[i] : 0;
        }

        void putWord(Word word, int modulus) {
            if (length < 0 || length >= words.length || length >= marks.length || words[length] == null) {
                return;
            }
            words[length].copy(word);
            marks[length] = word.markBy(modulus);
            length++;
        }

        void changeLetter(int i, int k, int letter, int modulus) {
            Word word = wordAt(i);
            if (word != null && i < marks.length) {
                word.change(k, letter);
                marks[i] = word.markBy(modulus);
            }
        }

        int firstLike(Word word) {
            for (int i = 0; i < length; i++) {
                Word own = wordAt(i);
                if (own != null && own.isLike(word)) {
                    return i;
                }
            }
            return NONE;
        }

        int countLike(Word word) {
            int found = 0;
            for (int i = 0; i < length; i++) {
                Word own = wordAt(i);
                if (own != null && own.isLike(word)) {
                    found++;
                }
            }
            return found;
        }
    }

    /** TREES whose MARKS make up a proof, in the proof's order, and on which side each one joins. */
    private static final class Way {
        final int[] firsts = new int[MOST_MARKS];
        final int[] manys = new int[MOST_MARKS];
        final boolean[] aheads = new boolean[MOST_MARKS];
        int count = 0;
        // GROWTH that is not whole begins with the MARK of the last TREE of the older things, which joins nothing.
        boolean hasStart = false;

        int firstAt(int k) {
            return k >= 0 && k < count && k < firsts.length ? firsts[k] : 0;
        }

        int manyAt(int k) {
            return k >= 0 && k < count && k < manys.length ? manys[k] : 0;
        }

        boolean isAhead(int k) {
            return k >= 0 && k < count && k < aheads.length && aheads[k];
        }

        void toThing(int i, int n) {
            clear();
            int first = 0;
            int many = n;
            for (int depth = 0; depth < MOST_DEPTH && many > 1; depth++) {
                int p = firstPartOf(many);
                if (i - first < p) {
                    put(first + p, many - p, false);
                    many = p;
                } else {
                    put(first, p, true);
                    first += p;
                    many -= p;
                }
            }
            turnRound();
        }

        void toGrowth(int m, int n) {
            clear();
            if (m == 0) {
                return;
            }
            int first = 0;
            int many = n;
            boolean whole = true;
            for (int depth = 0; depth < MOST_DEPTH && m - first != many; depth++) {
                int p = firstPartOf(many);
                if (m - first <= p) {
                    put(first + p, many - p, false);
                    many = p;
                } else {
                    put(first, p, true);
                    first += p;
                    many -= p;
                    whole = false;
                }
            }
            if (!whole) {
                put(first, many, false);
                hasStart = true;
            }
            turnRound();
        }

        void toBundle(int set, int n) {
            clear();
            int next = 0;
            // More rounds than a set has members and a row has MARKS are never needed.
            for (int round = 0; round < 2 * MOST_MARKS && next < n; round++) {
                if (hasOneOf(set, next, 1)) {
                    next++;
                } else {
                    next += putGreatestWithout(set, next, n);
                }
            }
        }

        private int putGreatestWithout(int set, int thing, int n) {
            int first = 0;
            int many = n;
            for (int depth = 0; depth < MOST_DEPTH && (first != thing || hasOneOf(set, first, many)); depth++) {
                int p = firstPartOf(many);
                if (thing - first < p) {
                    many = p;
                } else {
                    first += p;
                    many -= p;
                }
            }
            put(first, many, false);
            return many;
        }

        /** The k-th TREE of n things: the whole comes first, then all of its first part, then all of the rest. */
        void toTree(int k, int n) {
            clear();
            int first = 0;
            int many = n;
            int rest = k;
            for (int depth = 0; depth < MOST_DEPTH && rest > 0; depth++) {
                int p = firstPartOf(many);
                if (rest <= 2 * p - 1) {
                    rest -= 1;
                    many = p;
                } else {
                    rest -= 2 * p;
                    first += p;
                    many -= p;
                }
            }
            put(first, many, false);
        }

        int countShared(Way other) {
            int shared = 0;
            for (int k = 0; k < count; k++) {
                for (int j = 0; j < other.count; j++) {
                    if (firstAt(k) == other.firstAt(j) && manyAt(k) == other.manyAt(j)) {
                        shared++;
                    }
                }
            }
            return shared;
        }

        int joined(int modulus, int step, int soFar, int mark) {
            return isAhead(step) ? markOfTwo(modulus, mark, soFar) : markOfTwo(modulus, soFar, mark);
        }

        int folded(int modulus, Row row, int mark, int stepCount) {
            int soFar = mark;
            for (int step = 0; step < stepCount && step < count; step++) {
                soFar = joined(modulus, step, soFar, row.at(step));
            }
            return soFar;
        }

        int whyInclusion(int modulus, Row row, int mark, int head) {
            if (row.count != count) {
                return row.count < count ? WHY_TOO_FEW : WHY_TOO_MANY;
            }
            return folded(modulus, row, mark, count) == head ? 0 : WHY_OLDER;
        }

        int whyGrowth(int modulus, Row row, int m, int older, int n, int newer) {
            toGrowth(m, n);
            if (row.count != count) {
                return row.count < count ? WHY_TOO_FEW : WHY_TOO_MANY;
            }
            if (m == n) {
                return older == newer && (m != 0 || older == 0) ? 0 : WHY_OLDER;
            }
            if (m == 0) {
                return older == 0 ? 0 : WHY_OLDER;
            }
            int then = hasStart ? row.at(0) : older;
            int now = then;
            for (int k = hasStart ? 1 : 0; k < count; k++) {
                now = joined(modulus, k, now, row.at(k));
                then = isAhead(k) ? joined(modulus, k, then, row.at(k)) : then;
            }
            if (then != older) {
                return WHY_OLDER;
            }
            return now == newer ? 0 : WHY_NEWER;
        }

        private void clear() {
            count = 0;
            hasStart = false;
        }

        private void put(int first, int many, boolean ahead) {
            if (count >= 0 && count < MOST_MARKS) {
                firsts[count] = first;
                manys[count] = many;
                aheads[count] = ahead;
                count++;
            }
        }

        // Ways are found from the whole down, but proofs are told from the thing up.
        private void turnRound() {
            for (int k = 0; k < count / 2; k++) {
                int end = count - 1 - k;
                if (end < 0 || end >= MOST_MARKS || k >= MOST_MARKS) {
                    return;
                }
                int first = firsts[k];
                firsts[k] = firsts[end];
                firsts[end] = first;
                int many = manys[k];
                manys[k] = manys[end];
                manys[end] = many;
                boolean ahead = aheads[k];
                aheads[k] = aheads[end];
                aheads[end] = ahead;
            }
        }
    }

    /** Folds a row whose first MARKS are those of a set, and whose others are the BUNDLE. */
    private static final class Bundle {
        private int modulus = LEAST_M;
        private Row row = new Row();
        private int set = 0;
        private int nextMember = 0;
        private int nextOther = 0;

        int why(int byModulus, Row ofRow, int ofSet, int n, int others, int head) {
            int members = Integer.bitCount(ofSet);
            if (ofRow.count != members + others) {
                return ofRow.count < members + others ? WHY_TOO_FEW : WHY_TOO_MANY;
            }
            modulus = byModulus;
            row = ofRow;
            set = ofSet;
            nextMember = 0;
            nextOther = members;
            return foldedTree(this, 0, n, 0) == head ? 0 : WHY_OLDER;
        }

        private static int foldedTree(Bundle bundle, int first, int many, int depth) {
            if (depth > MOST_DEPTH || !hasOneOf(bundle.set, first, many)) {
                bundle.nextOther++;
                return bundle.row.at(bundle.nextOther - 1);
            }
            if (many < 2) {
                bundle.nextMember++;
                return bundle.row.at(bundle.nextMember - 1);
            }
            int p = firstPartOf(many);
            int left = foldedTree(bundle, first, p, depth + 1);
            int right = foldedTree(bundle, first + p, many - p, depth + 1);
            return markOfTwo(bundle.modulus, left, right);
        }
    }

    /**
     * Goes back from a HEAD to all MARKS that fold to it. To mix h with x only adds x to a number that h gives, so a
     * second MARK is told by the first and what they come to; a first one is a root of h * h + 3 * h, looked up here.
     */
    private static final class Roots {
        private final int[] leastOf = new int[GREATEST_M];
        private final int[] nextOf = new int[GREATEST_M];
        private int modulus = 0;
        private Way way = new Way();
        private Row row = new Row();
        private int lastStep = 0;
        private int openStep = NONE;
        private int openWith = 0;
        private int except = NONE;
        int found = 0;
        int lowest = 0;

        void prepare(int newModulus) {
            if (modulus == newModulus || newModulus < LEAST_M || newModulus > GREATEST_M) {
                return;
            }
            modulus = newModulus;
            for (int rest = 0; rest < modulus && rest < leastOf.length; rest++) {
                leastOf[rest] = NONE;
            }
            for (int h = modulus - 1; h >= 0; h--) {
                int rest = (int) (((long) h * h + 3L * h) % modulus);
                if (h < nextOf.length && rest < leastOf.length) {
                    nextOf[h] = leastOf[rest];
                    leastOf[rest] = h;
                }
            }
        }

        /** All MARKS but one that fold along a way and a row to a HEAD. */
        void seekThing(Way alongWay, Row alongRow, int exceptMark, int head) {
            way = alongWay;
            row = alongRow;
            lastStep = 0;
            openStep = NONE;
            except = exceptMark;
            seek(head);
        }

        /** All MARKS that, in the place of the k-th of the row, join what is folded so far and fold to a HEAD. */
        void seekStep(Way alongWay, Row alongRow, int soFar, int head, int k) {
            way = alongWay;
            row = alongRow;
            lastStep = k;
            openStep = k;
            openWith = soFar;
            except = NONE;
            seek(head);
        }

        private void seek(int head) {
            found = 0;
            lowest = 0;
            if (modulus > 0) {
                goBack(this, way.count - 1, head);
            }
        }

        private static void goBack(Roots search, int step, int target) {
            if (step < search.lastStep || step < 0) {
                search.take(target);
                return;
            }
            boolean open = step == search.openStep;
            int known = open ? search.openWith : search.row.at(step);
            // At an open step the row's MARK is sought and what is folded so far is known: sides change places.
            if (search.way.isAhead(step) != open) {
                goBack(search, step - 1, search.secondOf(known, target));
                return;
            }
            int root = search.leastRoot(known, target);
            for (int k = 0; k < search.modulus && root >= 0 && root < GREATEST_M; k++) {
                goBack(search, step - 1, search.firstOf(root));
                root = search.nextOf[root];
            }
        }

        private void take(int mark) {
            if (mark == except) {
                return;
            }
            lowest = found == 0 ? mark : Math.min(lowest, mark);
            found++;
        }

        private int secondOf(int first, int target) {
            return restOf(target - markOfTwo(modulus, first, 0));
        }

        private int leastRoot(int second, int target) {
            int rest = restOf(target - second - 7);
            return rest >= 0 && rest < leastOf.length ? leastOf[rest] : NONE;
        }

        private int firstOf(int root) {
            return restOf(root - TWO_MIXED);
        }

        private int restOf(long number) {
            return modulus > 0 ? (int) Math.floorMod(number, (long) modulus) : 0;
        }
    }

    /** A FROZEN HEAD, with PEAKS as they were. */
    private static final class Frozen {
        int record = 0;
        int size = 0;
        int mark = 0;
        int tick = 0;
        final Row peakRow = new Row();
    }

    /** What a WATCHER TRUSTS. */
    private static final class Watcher {
        int size = 0;
        int head = 0;
        int timesShown = 0;
        boolean alarmed = false;

        void renew() {
            trust(0, 0);
            timesShown = 0;
            alarmed = false;
        }

        void trust(int newSize, int newHead) {
            size = newSize;
            head = newHead;
        }

        void hearWhy(int why) {
            alarmed = alarmed || why != 0 && why != WHY_NONE;
        }
    }

    /** All that a TEXT makes: RECORDS, FROZEN HEADS, WATCHERS, M, and how many ACTS there were. */
    private static final class World {
        int modulus = GREATEST_M;
        final Log[] logs = new Log[MOST_RECORDS];
        int logCount = 1;
        final Frozen[] frozens = new Frozen[MOST_FROZEN];
        int frozenCount = 0;
        final Watcher[] watchers = new Watcher[WATCHERS];
        int acts = 0;
        private final int[] joining = new int[MOST_ENTRIES];
        private final Row grown = new Row();
        private final Way grownWay = new Way();

        World() {
            for (int k = 0; k < logs.length; k++) {
                logs[k] = new Log();
            }
            for (int k = 0; k < frozens.length; k++) {
                frozens[k] = new Frozen();
            }
            for (int k = 0; k < watchers.length; k++) {
                watchers[k] = new Watcher();
            }
        }

        void renew() {
            modulus = GREATEST_M;
            logCount = 1;
            Log log = logAt(0);
            if (log != null) {
                log.length = 0;
            }
            frozenCount = 0;
            acts = 0;
            for (int k = 0; k < WATCHERS; k++) {
                Watcher one = watcherAt(k);
                if (one != null) {
                    one.renew();
                }
            }
        }

        Log logAt(int record) {
            return record >= 0 && record < logCount && record < logs.length ? logs[record] : null;
        }

        Frozen frozenAt(int i) {
            return i >= 0 && i < frozenCount && i < frozens.length ? frozens[i] : null;
        }

        Watcher watcherAt(int watcher) {
            return watcher >= 0 && watcher < watchers.length ? watchers[watcher] : null;
        }

        int alarmedBits() {
            int bits = 0;
            for (int k = 0; k < WATCHERS; k++) {
                Watcher one = watcherAt(k);
                if (one != null && one.alarmed) {
                    bits |= 1 << k;
                }
            }
            return bits;
        }

        /** Split at powers of 2, a TREE is the same as things joined two by two, the odd last one left for later. */
        int treeMark(Log log, int first, int many) {
            if (log == null || many <= 0) {
                return 0;
            }
            int rest = Math.min(many, joining.length);
            for (int k = 0; k < rest; k++) {
                joining[k] = log.markAt(first + k);
            }
            for (int depth = 0; depth < MOST_DEPTH && rest > 1; depth++) {
                int pairs = rest / 2;
                for (int k = 0; k < pairs; k++) {
                    joining[k] = markOfTwo(modulus, joining[2 * k], joining[2 * k + 1]);
                }
                if (rest % 2 == 1) {
                    joining[pairs] = joining[rest - 1];
                }
                rest -= pairs;
            }
            return joining[0];
        }

        void peaksOf(Log log, int n, Row row) {
            row.shorten(0);
            int first = 0;
            for (int width = 1 << 5; width > 0; width /= 2) {
                if ((n & width) != 0) {
                    row.put(treeMark(log, first, width));
                    first += width;
                }
            }
        }

        int headOf(Log log, int n) {
            return treeMark(log, 0, n);
        }

        boolean hasHead(Log log, int n, int head) {
            return log != null && n <= log.length && headOf(log, n) == head;
        }

        void marksAlong(Way way, Log log, Row row) {
            row.shorten(0);
            for (int k = 0; k < way.count; k++) {
                row.put(treeMark(log, way.firstAt(k), way.manyAt(k)));
            }
        }

        void addWord(Log log, Word word) {
            log.putWord(word, modulus);
            acts++;
        }

        int forkLog(Log log, int n) {
            if (logCount < 0 || logCount >= logs.length || logs[logCount] == null) {
                return NONE;
            }
            Log newer = logs[logCount];
            newer.length = 0;
            for (int i = 0; i < n; i++) {
                Word word = log.wordAt(i);
                if (word != null) {
                    newer.putWord(word, modulus);
                }
            }
            logCount++;
            acts++;
            return logCount - 1;
        }

        int freezeHead(int record) {
            Log log = logAt(record);
            if (log == null || frozenCount < 0 || frozenCount >= frozens.length || frozens[frozenCount] == null) {
                return NONE;
            }
            Frozen one = frozens[frozenCount];
            one.record = record;
            one.size = log.length;
            one.mark = headOf(log, log.length);
            one.tick = acts;
            peaksOf(log, log.length, one.peakRow);
            frozenCount++;
            acts++;
            return frozenCount - 1;
        }

        void spoilLetter(Log log, int i, int k, int letter) {
            log.changeLetter(i, k, letter, modulus);
            acts++;
        }

        int whyGrown(Log log, int m, int older, int n, int newer) {
            if (log == null || n > log.length) {
                return WHY_NONE;
            }
            grownWay.toGrowth(m, n);
            marksAlong(grownWay, log, grown);
            return grownWay.whyGrowth(modulus, grown, m, older, n, newer);
        }

        int showTo(Watcher one, Log log, int n) {
            if (one == null) {
                return NONE;
            }
            int head = headOf(log, n);
            boolean newer = n >= one.size;
            int why = newer ? whyGrown(log, one.size, one.head, n, head) : whyGrown(log, n, head, one.size, one.head);
            if (why == 0 && newer) {
                one.trust(n, head);
            }
            one.hearWhy(why);
            one.timesShown++;
            acts++;
            return why;
        }

        int meetBy(Watcher one, Watcher another, Log log) {
            boolean inOrder = one.size <= another.size;
            Watcher lesser = inOrder ? one : another;
            Watcher greater = inOrder ? another : one;
            int why = whyGrown(log, lesser.size, lesser.head, greater.size, greater.head);
            if (why == 0) {
                lesser.trust(greater.size, greater.head);
            }
            lesser.hearWhy(why);
            greater.hearWhy(why);
            acts++;
            return why;
        }

        boolean doAgree(Watcher one, Watcher another) {
            if (one == null || another == null) {
                return false;
            }
            for (int k = 0; k < logCount; k++) {
                Log log = logAt(k);
                if (hasHead(log, one.size, one.head) && hasHead(log, another.size, another.head)) {
                    return true;
                }
            }
            return false;
        }

        boolean isSound(Frozen one) {
            return hasHead(logAt(one.record), one.size, one.mark);
        }

        int sickBits(Frozen one, Row row) {
            peaksOf(logAt(one.record), one.size, row);
            int bits = 0;
            for (int k = 0; k < row.count && k < 31; k++) {
                if (row.at(k) != one.peakRow.at(k)) {
                    bits |= 1 << k;
                }
            }
            return bits;
        }

        int countUnsound(int record) {
            int found = 0;
            for (int k = 0; k < frozenCount; k++) {
                Frozen one = frozenAt(k);
                if (one != null && one.record == record && !isSound(one)) {
                    found++;
                }
            }
            return found;
        }

        int leastUnsound(int record) {
            int least = NONE;
            for (int k = 0; k < frozenCount; k++) {
                Frozen one = frozenAt(k);
                if (one != null && one.record == record && !isSound(one) && (least == NONE || one.size < least)) {
                    least = one.size;
                }
            }
            return least;
        }

        int greatestSoundBelow(int record, int size) {
            int greatest = 0;
            for (int k = 0; k < frozenCount; k++) {
                Frozen one = frozenAt(k);
                if (one != null && one.record == record && one.size < size && isSound(one)) {
                    greatest = Math.max(greatest, one.size);
                }
            }
            return greatest;
        }

        int leastFrozenAbove(int record, int size) {
            int least = NONE;
            for (int k = 0; k < frozenCount; k++) {
                Frozen one = frozenAt(k);
                if (one != null && one.record == record && one.size > size && (least == NONE || one.size < least)) {
                    least = one.size;
                }
            }
            return least;
        }

        int partingEntry(Log one, Log another) {
            int n = Math.min(one.length, another.length);
            if (headOf(one, n) == headOf(another, n)) {
                return one.length == another.length ? NONE : n;
            }
            return partingTrees(one, another, n, false);
        }

        int partingCompared(Log one, Log another) {
            int n = Math.min(one.length, another.length);
            return headOf(one, n) == headOf(another, n) ? 0 : partingTrees(one, another, n, true);
        }

        private int partingTrees(Log one, Log another, int n, boolean howMany) {
            int first = 0;
            int many = n;
            int compared = 0;
            for (int depth = 0; depth < MOST_DEPTH && many > 1; depth++) {
                int p = firstPartOf(many);
                compared++;
                if (treeMark(one, first, p) != treeMark(another, first, p)) {
                    many = p;
                } else {
                    first += p;
                    many -= p;
                }
            }
            return howMany ? compared : first;
        }
    }

    /** Goes through a text TOKEN by TOKEN. */
    private static final class Scanner {
        static final int END = 0;
        static final int WORD = 1;
        static final int NUMBER = 2;
        static final int SIGN = 3;
        static final int NO_TOKEN = 4;
        private static final int MOST_DIGITS = 5;

        private byte[] bytes = new byte[0];
        private int end = 0;
        private int next = 0;
        int kind = END;
        int place = 0;
        int length = 0;
        int value = 0;

        void begin(byte[] text, int n) {
            bytes = text;
            end = Math.max(0, Math.min(n, text.length));
            next = 0;
        }

        void advance() {
            for (int k = 0; k < MOST_BYTES && isBlank(byteAt(next)); k++) {
                next++;
            }
            place = next;
            kind = next < end ? kindOf(byteAt(next)) : END;
            next += kind == END ? 0 : 1;
            for (int k = 0; k < MOST_BYTES && (kind == WORD || kind == NUMBER) && kindOf(byteAt(next)) == kind; k++) {
                next++;
            }
            length = next - place;
            value = 0;
            for (int k = 0; k < length && k < MOST_DIGITS && kind == NUMBER; k++) {
                value = 10 * value + byteAt(place + k) - '0';
            }
            kind = kind == NUMBER && length > MOST_DIGITS ? NO_TOKEN : kind;
        }

        boolean spells(String text) {
            boolean alike = kind == WORD && length == text.length();
            for (int k = 0; k < text.length() && alike; k++) {
                alike = byteAt(place + k) == text.charAt(k);
            }
            return alike;
        }

        void copyWord(Word word) {
            word.clear();
            for (int k = 0; k < length && k < MOST_LETTERS; k++) {
                word.put(byteAt(place + k) - 'a' + 1);
            }
        }

        private int byteAt(int k) {
            return k >= 0 && k < end && k < bytes.length ? bytes[k] : 0;
        }

        private static boolean isBlank(int letter) {
            return letter == 10 || letter == 32;
        }

        private static int kindOf(int letter) {
            if (letter >= 'a' && letter <= 'z') {
                return WORD;
            }
            if (letter >= '0' && letter <= '9') {
                return NUMBER;
            }
            return letter == ';' ? SIGN : NO_TOKEN;
        }
    }

    /** Reads a TEXT or PROOFS up to the first FAULT; each step says whether it can go on. */
    private static final class Reader {
        static final int ADD = 0;
        static final int TO = 1;
        static final int FORK = 2;
        static final int FREEZE = 3;
        static final int SHOW = 4;

        private final Scanner scanner = new Scanner();
        private final Row row = new Row();
        private final Way way = new Way();
        private int modulus = GREATEST_M;
        int faultKind = NONE;
        int faultPlace = NONE;
        // The LINE that was read last.
        int line = ADD;
        final Word word = new Word();
        int watcher = 0;
        int number = 0;

        void begin(byte[] bytes, int n) {
            faultKind = 0;
            faultPlace = NONE;
            scanner.begin(bytes, n);
            scanner.advance();
        }

        boolean isAtEnd() {
            return scanner.kind == Scanner.END;
        }

        boolean readModulus(World world) {
            if (!scanner.spells("mod")) {
                return true;
            }
            if (!readNumber(LEAST_M, GREATEST_M) || !readSign()) {
                return false;
            }
            world.modulus = number;
            scanner.advance();
            return true;
        }

        /** A LINE is judged by what there is so far, so each one is to be performed before the next is read. */
        boolean readLine(World world, Log log) {
            boolean read;
            if (scanner.spells("add")) {
                read = readAdd(log);
            } else if (scanner.spells("to")) {
                line = TO;
                read = readNumber(0, world.logCount - 1) && readSign();
            } else if (scanner.spells("fork")) {
                line = FORK;
                read = hasRoom(world.logCount, MOST_RECORDS) && readNumber(0, log.length) && readSign();
            } else if (scanner.spells("freeze")) {
                line = FREEZE;
                read = hasRoom(world.frozenCount, MOST_FROZEN) && readSign();
            } else if (scanner.spells("show")) {
                read = readShow(log);
            } else {
                read = stray();
            }
            if (read) {
                scanner.advance();
            }
            return read;
        }

        boolean readProofs(int byModulus, Row whys) {
            modulus = byModulus;
            whys.shorten(0);
            for (int k = 0; k < MOST_BYTES && !isAtEnd(); k++) {
                boolean inclusion = scanner.spells("in");
                if (!inclusion && !scanner.spells("grow")) {
                    return stray();
                }
                if (!hasRoom(whys.count, MOST_STATEMENTS) || !(inclusion ? readInclusion(whys) : readGrowth(whys))) {
                    return false;
                }
                scanner.advance();
            }
            return true;
        }

        private boolean readAdd(Log log) {
            line = ADD;
            if (!hasRoom(log.length, MOST_ENTRIES)) {
                return false;
            }
            word.clear();
            scanner.advance();
            if (scanner.kind == Scanner.WORD) {
                if (scanner.length > MOST_LETTERS) {
                    return fail(4);
                }
                scanner.copyWord(word);
                scanner.advance();
            }
            return scanner.kind == Scanner.SIGN || stray();
        }

        private boolean readShow(Log log) {
            line = SHOW;
            if (!readNumber(0, WATCHERS - 1)) {
                return false;
            }
            watcher = number;
            return readNumber(0, log.length) && readSign();
        }

        private boolean readInclusion(Row whys) {
            if (!readNumber(0, Integer.MAX_VALUE)) {
                return false;
            }
            int i = number;
            if (!readWord("of") || !readNumber(i + 1, Integer.MAX_VALUE)) {
                return false;
            }
            int n = number;
            if (!readMark("mark")) {
                return false;
            }
            int mark = number;
            if (!readMark("head") || !readRow()) {
                return false;
            }
            way.toThing(i, n);
            whys.put(way.whyInclusion(modulus, row, mark, number));
            return true;
        }

        private boolean readGrowth(Row whys) {
            if (!readNumber(0, Integer.MAX_VALUE)) {
                return false;
            }
            int m = number;
            if (!readMark("mark")) {
                return false;
            }
            int older = number;
            if (!readWord("to") || !readNumber(m, Integer.MAX_VALUE)) {
                return false;
            }
            int n = number;
            if (!readMark("head") || !readRow()) {
                return false;
            }
            whys.put(way.whyGrowth(modulus, row, m, older, n, number));
            return true;
        }

        private boolean readMark(String ahead) {
            return readWord(ahead) && readNumber(0, modulus - 1);
        }

        private boolean readRow() {
            if (!readWord("by")) {
                return false;
            }
            row.shorten(0);
            scanner.advance();
            for (int k = 0; k <= MOST_MARKS && scanner.kind == Scanner.NUMBER; k++) {
                if (scanner.value >= modulus) {
                    return fail(3);
                }
                if (!hasRoom(row.count, MOST_MARKS)) {
                    return false;
                }
                row.put(scanner.value);
                scanner.advance();
            }
            return scanner.kind == Scanner.SIGN || stray();
        }

        private boolean readNumber(int least, int most) {
            scanner.advance();
            if (scanner.kind != Scanner.NUMBER) {
                return stray();
            }
            number = scanner.value;
            return number >= least && number <= most || fail(3);
        }

        private boolean readWord(String text) {
            scanner.advance();
            return scanner.spells(text) || stray();
        }

        private boolean readSign() {
            scanner.advance();
            return scanner.kind == Scanner.SIGN || stray();
        }

        private boolean hasRoom(int count, int most) {
            return count < most || fail(6);
        }

        private boolean stray() {
            return fail(scanner.kind == Scanner.NO_TOKEN ? 1 : 2);
        }

        private boolean fail(int kind) {
            faultKind = kind;
            faultPlace = scanner.place;
            return false;
        }
    }
}
