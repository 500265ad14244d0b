/**
 * Each promise by its number, with answers reckoned by hand. By M 101 the MARKS of a, b, c, d, e are 12 to 16; those of
 * ab 39, cd 66, abc 93, abcd 44, abcde 89.
 */
public final class PromisesTest {
    private static final String FIVE = "mod 101;add a;add b;add c;add d;add e;";
    private static final int LEAST = Integer.MIN_VALUE;
    private static final int MOST = Integer.MAX_VALUE;

    private PromisesTest() {
    }

    public static void main(String[] args) {
        newObject();
        status();
        feed();
        load();
        loadMakesAnew();
        hear();
        heard();
        fault();
        type();
        many();
        size();
        entry();
        head();
        join();
        mark();
        frozen();
        watcher();
        add();
        fork();
        freeze();
        show();
        meet();
        spoil();
        push();
        poke();
        pad();
        cut();
        include();
        grow();
        bundle();
        peaks();
        extend();
        checks();
        growth();
        bundled();
        fold();
        steps();
        climbs();
        agree();
        where();
        tree();
        proves();
        longest();
        part();
        blame();
        weak();
        clash();
        forge();
        trace();
        span();
        rise();
        kept();
        sick();
        chain();
        split();
        tell();
        tellGrowth();
        out();
        trusted();
        saves();
        who();
        Due.end();
    }

    // 1
    private static void newObject() {
        ProvenRecord x = new ProvenRecord();
        Due.due("status()", x.status(), 0);
        int[] many = {1, 65521, 0, 0, 0, 0};
        for (int what = 0; what < many.length; what++) {
            Due.answered("many " + what, x, x.many(what), many[what]);
        }
        Due.answered("size", x, x.size(0), 0);
        Due.answered("no word typed", x, x.mark(), 1);
        Due.answered("no word typed", x, x.where(0, 1), 0);
        Due.refused("an empty tape", x, x.load(1), 1);
        for (int w = 0; w < 4; w++) {
            for (int what = 0; what < 4; what++) {
                Due.answered("watcher " + w + " " + what, x, x.watcher(w, what), 0);
            }
        }
        Due.refused("heard", x, x.heard(0), 5);
        Due.refused("out", x, x.out(0), 5);
        Due.due("NONE", ProvenRecord.NONE, -1);
    }

    // 2
    private static void status() {
        ProvenRecord x = new ProvenRecord();
        x.size(9);
        Due.due("status() stays", x.status(), 2);
        Due.due("status() stays", x.status(), 2);
        x.feed(0, 0, 0, 0, 0);
        Due.due("feed() has none", x.status(), 2);
        x.fault(0);
        x.fault(7);
        Due.due("fault() has none", x.status(), 2);
        x.type(1, 0);
        x.type(31, 0);
        Due.due("type() has none", x.status(), 2);
        x.mark();
        Due.due("mark() has one", x.status(), 0);
        x.load(21);
        Due.due("load()", x.status(), 1);
        x.load(20);
        Due.due("load() of zeros", x.status(), 9);
    }

    // 3
    private static void feed() {
        ProvenRecord x = new ProvenRecord();
        Due.due("feed", x.feed(('a' << 24) + ('d' << 16) + ('d' << 8) + ';', 0x80000000, -1, 0, 0), 20);
        Due.answered("the highest byte first", x, x.load(4), 1);
        Due.due("feed", x.size(0), 1);
        for (int k = 1; k <= 45; k++) {
            Due.due("feed " + k, x.feed(0x20202020, 0x20202020, 0x20202020, 0x20202020, 0x20202020), 20 * k);
        }
        Due.due("feed of more than 900", x.feed(0, 0, 0, 0, 0), -1);
        Due.refused("more than there is", x, x.load(901), 1);
        Due.answered("all 900", x, x.load(900), 1);
        Due.due("the tape is empty then", x.feed(0, 0, 0, 0, 0), 20);
        x.hear(0);
        Due.feed(x, "                    add z;");
        Due.answered("behind those on the tape", x, x.load(26), 1);
        Due.due("size", x.size(0), 1);
        Due.due("entry", x.entry(0, 0, 2), 26);
        ProvenRecord y = new ProvenRecord();
        y.feed(0x61646420, 0x613b6164, 0x6420623b, 0x61646420, 0x633b2020);
        Due.answered("all five ints", y, y.load(20), 1);
        Due.due("size", y.size(0), 3);
        Due.due("the last int", y.entry(0, 2, 2), 3);
    }

    private static void loadFault(String text, int kind, int place) {
        ProvenRecord x = Due.loaded(FIVE);
        Due.feed(x, text);
        Due.refused("load " + text, x, x.load(text.length()), 9);
        Due.due("fault(0) of " + text, x.fault(0), kind);
        Due.due("fault(1) of " + text, x.fault(1), place);
        Due.due("nothing else changed by " + text, x.head(0, 5), 89);
        Due.due("nothing else changed by " + text, x.many(1), 101);
        Due.due("nothing else changed by " + text, x.many(4), 5);
        Due.due("the tape is empty behind " + text, x.feed(0, 0, 0, 0, 0), 20);
    }

    // 4, and FAULTS
    private static void load() {
        ProvenRecord x = new ProvenRecord();
        Due.answered("no text", x, x.load(0), 1);
        Due.refused("below 0", x, x.load(-1), 1);
        Due.refused("below 0", x, x.load(LEAST), 1);
        Due.refused("above", x, x.load(1), 1);
        int n = Due.feed(x, "add a;add;fork 1;add b;fork 2;to 0;show 3 2;freeze;");
        Due.refused("above", x, x.load(61), 1);
        Due.answered("load", x, x.load(n), 3);
        Due.due("size", x.size(0), 2);
        Due.due("size", x.size(1), 2);
        Due.due("size", x.size(2), 2);
        Due.due("watcher", x.watcher(3, 0), 2);
        Due.due("frozen", x.frozen(0, 0), 0);
        Due.due("frozen", x.frozen(0, 3), 6);
        Due.due("ACTS: not to", x.many(4), 7);
        Due.due("blanks", Due.loaded("\n mod\n00101 ;\n add  a\n;to 0 ; ").many(1), 101);
        Due.due("no blanks", Due.loaded("mod65521;add a;fork1;show3 1;").many(0), 2);
        Due.due("a word like another", Due.loaded("add add;add mod;add to;").size(0), 3);

        loadFault("?", 1, 0);
        loadFault("add a,", 1, 5);
        loadFault("add A;", 1, 4);
        loadFault("add\ta;", 1, 3);
        loadFault("add \u00e9;", 1, 4);
        loadFault("to 123456;", 1, 3);
        loadFault("to 000000;", 1, 3);
        loadFault("add a;;", 2, 6);
        loadFault("ad a;", 2, 0);
        loadFault("adda a;", 2, 0);
        loadFault("abcdefghij;", 2, 0);
        loadFault("add a;mod 101;", 2, 6);
        loadFault("mod 101;mod 101;", 2, 8);
        loadFault("mod;", 2, 3);
        loadFault("mod a;", 2, 4);
        loadFault("mod 101", 2, 7);
        loadFault("mod 101 a", 2, 8);
        loadFault("add", 2, 3);
        loadFault("add  ", 2, 5);
        loadFault("add a", 2, 5);
        loadFault("add a b;", 2, 6);
        loadFault("add 1;", 2, 4);
        loadFault("to;", 2, 2);
        loadFault("to 0 0;", 2, 5);
        loadFault("fork;", 2, 4);
        loadFault("freeze 0;", 2, 7);
        loadFault("show 0;", 2, 6);
        loadFault("show 0 0 0;", 2, 9);
        loadFault("add abcdefghi 1;", 4, 4);
        loadFault("mod 100;", 3, 4);
        loadFault("mod 65522;", 3, 4);
        loadFault("mod 0;", 3, 4);
        loadFault("to 1;", 3, 3);
        loadFault("fork 0;to 2;", 3, 10);
        loadFault("add a;fork 2;", 3, 11);
        loadFault("show 4 0;", 3, 5);
        loadFault("show 4 9;", 3, 5);
        loadFault("add a;show 3 2;", 3, 13);
        loadFault("add abcdefghi;", 4, 4);
        loadFault("add;".repeat(49), 6, 192);
        loadFault("add;".repeat(48) + "add abcdefghi;", 6, 192);
        loadFault("fork 0;fork 0;fork 0; fork 9;", 6, 22);
        loadFault("freeze;".repeat(16) + " freeze 1;", 6, 113);
        Due.due("48 ENTRIES", Due.loaded("add;".repeat(48)).size(0), 48);
        Due.due("48 ENTRIES of two", Due.loaded("add;".repeat(48) + "fork 47;add;").size(1), 48);
        Due.due("4 RECORDS", Due.loaded("fork 0;fork 0;fork 0;").many(0), 4);
        Due.due("16 FROZEN", Due.loaded("freeze;".repeat(16)).many(3), 16);
        Due.due("8 letters", Due.loaded("add abcdefgh;").entry(0, 0, 0), 8);
    }

    private static void loadMakesAnew() {
        ProvenRecord x = Due.loaded("mod 101;add a;add b;freeze;fork 1;add c;show 0 2;to 0;show 0 2;");
        Due.due("alarmed ahead", x.many(5), 1);
        x.push(7);
        Due.type(x, "abc");
        Due.answered("tell", x, x.tell(0, 0, 1), 29);
        Due.feed(x, "in 0 of 1 mark 1 head 2 by;");
        Due.answered("hear", x, x.hear(27), 0);
        Due.answered("load", x, x.load(Due.feed(x, "add z;")), 1);
        int[] many = {1, 65521, 0, 0, 1, 0};
        for (int what = 0; what < many.length; what++) {
            Due.answered("anew, many " + what, x, x.many(what), many[what]);
        }
        for (int what = 0; what < 4; what++) {
            Due.answered("anew, watcher " + what, x, x.watcher(0, what), 0);
        }
        Due.answered("what was heard stays", x, x.heard(0), 3);
        // 1: 12 with a; then 12 * 12 + 36 + 2 + 7 = 189; then 189 * 189 + 567 + 3 + 7 = 36298
        Due.answered("the word typed stays", x, x.mark(), 36298);
        Due.answered("OUT stays", x, x.out(0), 'i');
        Due.due("an empty one is anew, too", x.load(0) + x.size(0), 1);
    }

    private static void hearFault(String text, int kind, int place) {
        ProvenRecord x = Due.loaded(FIVE);
        x.push(5);
        Due.feed(x, "in 0 of 1 mark 1 head 2 by;in 0 of 1 mark 1 head 1 by;");
        Due.answered("hear ahead", x, x.hear(54), 1);
        Due.feed(x, text);
        Due.refused("hear " + text, x, x.hear(text.length()), 9);
        Due.due("fault(0) of " + text, x.fault(0), kind);
        Due.due("fault(1) of " + text, x.fault(1), place);
        Due.due("what was heard ahead stays", x.heard(0), 3);
        Due.due("what was heard ahead stays", x.heard(1), 0);
        Due.due("what was heard ahead stays", x.heard(2), -1);
        Due.due("the PAD stays", x.many(2), 1);
        Due.due("the tape is empty", x.feed(0, 0, 0, 0, 0), 20);
    }

    // 5
    private static void hear() {
        ProvenRecord x = Due.loaded(FIVE);
        Due.answered("nothing", x, x.hear(0), 0);
        Due.refused("below 0", x, x.hear(-1), 1);
        Due.refused("above", x, x.hear(1), 1);
        x.push(3);
        int n = Due.feed(x, "in 2 of 5 mark 14 head 89 by 15 39 16; grow 3 mark 93 to 5 head 89 by 14 15 39 16;"
            + "in 2 of 5 mark 14 head 89 by 15 39; grow 3 mark 92 to 5 head 89 by 14 15 39 16 ;\n");
        Due.answered("hear", x, x.hear(n), 2);
        Due.due("heard", x.heard(0), 0);
        Due.due("heard", x.heard(1), 0);
        Due.due("heard", x.heard(2), 1);
        Due.due("heard", x.heard(3), 3);
        Due.due("the PAD stays", x.pad(0), 3);
        Due.due("the tape is empty", x.feed(0, 0, 0, 0, 0), 20);
        x.load(0);
        x.feed(0, 0, 0, 0, 0);

        String one = "in 0 of 1 mark 1 head 1 by;";
        ProvenRecord y = Due.loaded("mod 101;");
        Due.answered("20 STATEMENTS", y, y.hear(Due.feed(y, one.repeat(20))), 20);
        Due.due("the 20th", y.heard(19), 0);
        Due.refused("no 21st", y, y.heard(20), 5);
        String row = "in 0 of 1 mark 1 head 1 by" + " 7".repeat(64) + ";";
        Due.answered("64 MARKS", y, y.hear(Due.feed(y, row)), 0);
        Due.due("too many", y.heard(0), 2);
        Due.answered("M less 1", y, y.hear(Due.feed(y, "in 0 of 1 mark 100 head 100 by; grow 0 mark 0 to 1 head 100 by;")), 2);
        Due.answered("M less 1", y, y.hear(Due.feed(y, "in 0 of 2 mark 1 head 100 by 100;")), 0);
        Due.answered("as many as 99999 things", y, y.hear(Due.feed(y, "in 99998 of 99999 mark 1 head 1 by;")), 0);
        Due.due("too few", y.heard(0), 1);

        hearFault("out;", 2, 0);
        hearFault("add a;", 2, 0);
        hearFault(";", 2, 0);
        hearFault("in 0 of 1 mark 1 head 1 by", 2, 26);
        hearFault("in 0 of 1 mark 1 head 1;", 2, 23);
        hearFault("in 0 of 1 head 1 mark 1 by;", 2, 10);
        hearFault("in 0 to 1 mark 1 head 1 by;", 2, 5);
        hearFault("grow 0 of 1 mark 1 head 1 by;", 2, 7);
        hearFault("in a of 1 mark 1 head 1 by;", 2, 3);
        hearFault("in 0 of 1 mark 1 head 1 by 1 a;", 2, 29);
        hearFault("in 0 of 1 mark 1 head 1 by 1 .;", 1, 29);
        hearFault("in 0 of 1 mark 1 head 1 by 100000;", 1, 27);
        hearFault("in 5 of 5 mark 1 head 1 by;", 3, 8);
        hearFault("in 5 of 0 mark 1 head 1 by;", 3, 8);
        hearFault("in 0 of 1 mark 101 head 1 by;", 3, 15);
        hearFault("in 0 of 1 mark 1 head 101 by;", 3, 22);
        hearFault("in 0 of 1 mark 1 head 1 by 101;", 3, 27);
        hearFault("grow 5 mark 101 to 5 head 1 by;", 3, 12);
        hearFault("grow 5 mark 1 to 4 head 1 by;", 3, 17);
        hearFault("grow 5 mark 1 to 5 head 101 by;", 3, 24);
        hearFault("grow 5 mark 1 to 5 head 1 by 0 101;", 3, 31);
        hearFault(one.repeat(20) + " in 9 of 9;", 6, 541);
        hearFault(one.repeat(20) + " grow;", 6, 541);
        hearFault(one.repeat(20) + " inn;", 2, 541);
        hearFault("in 0 of 1 mark 1 head 1 by" + " 7".repeat(64) + " 8;", 6, 155);
        hearFault("in 0 of 1 mark 1 head 1 by" + " 7".repeat(64) + " 101;", 3, 155);
        hearFault("in 0 of 1 mark 1 head 1 by" + " 7".repeat(64) + " by;", 2, 155);
    }

    // 6
    private static void heard() {
        ProvenRecord x = Due.loaded(FIVE);
        Due.refused("nothing heard", x, x.heard(0), 5);
        int n = Due.feed(x, "in 4 of 5 mark 16 head 89 by 44; in 4 of 5 mark 16 head 89 by; in 4 of 5 mark 16 head 89 by 44 1;"
            + "in 4 of 5 mark 15 head 89 by 44; grow 4 mark 44 to 5 head 89 by 16; grow 4 mark 43 to 5 head 89 by 16;"
            + "grow 3 mark 1 to 5 head 89 by 14 15 39 16; grow 2 mark 1 to 5 head 9 by; grow 0 mark 0 to 3 head 9 by 1;");
        Due.answered("hear", x, x.hear(n), 2);
        int[] whys = {0, 1, 2, 3, 0, 4, 3, 1, 2};
        for (int k = 0; k < whys.length; k++) {
            Due.answered("heard " + k, x, x.heard(k), whys[k]);
        }
        Due.refused("below 0", x, x.heard(-1), 1);
        Due.refused("none", x, x.heard(9), 5);
        Due.refused("none", x, x.heard(MOST), 5);
        x.hear(0);
        Due.refused("the latest had none", x, x.heard(0), 5);
    }

    // 7
    private static void fault() {
        ProvenRecord x = new ProvenRecord();
        Due.due("ahead of any", x.fault(0), -1);
        Due.due("ahead of any", x.fault(1), -1);
        x.load(5);
        Due.due("STATUS 1 tells nothing", x.fault(0), -1);
        x.load(0);
        Due.due("none", x.fault(0), 0);
        Due.due("none", x.fault(1), -1);
        Due.due("others", x.fault(2), -1);
        Due.due("others", x.fault(-1), -1);
        x.hear(Due.feed(x, "in in"));
        Due.due("of hear()", x.fault(0), 2);
        Due.due("of hear()", x.fault(1), 3);
        x.load(-1);
        x.hear(1);
        Due.due("stays with STATUS 1", x.fault(1), 3);
        x.load(Due.feed(x, "add a"));
        Due.due("of load()", x.fault(0), 2);
        Due.due("of load()", x.fault(1), 5);
        x.hear(0);
        Due.due("none", x.fault(0), 0);
        Due.due("none", x.fault(1), -1);
    }

    // 8
    private static void type() {
        ProvenRecord x = new ProvenRecord();
        Due.due("type", x.type(0, 0), 0);
        Due.due("type", x.type(1 | 2 << 5 | 26 << 10, 0), 3);
        x.add(0);
        Due.due("the lowest first", x.entry(0, 0, 2), 1);
        Due.due("the lowest first", x.entry(0, 0, 4), 26);
        int six = 1 | 2 << 5 | 3 << 10 | 4 << 15 | 5 << 20 | 6 << 25;
        Due.due("six of the first", x.type(six, 0), 6);
        Due.due("then the second", x.type(six, 7 | 8 << 5), 8);
        x.add(0);
        for (int k = 0; k < 8; k++) {
            Due.due("letter " + k, x.entry(0, 1, 2 + k), k + 1);
        }
        Due.due("no more than 8", x.type(six, 7 | 8 << 5 | 31 << 10), 8);
        Due.due("two bits over", x.type(six | 3 << 30, 7), 7);
        Due.due("till one is 0", x.type(1 | 31 << 10, 9), 1);
        Due.due("a letter above 26", x.type(1 | 27 << 5, 0), -1);
        Due.due("a letter above 26", x.type(six, 31), -1);
        Due.due("a letter above 26", x.type(six, 1 | 27 << 5), -1);
        x.add(0);
        Due.due("the word stays", x.entry(0, 2, 0), 1);
        Due.due("the word stays", x.entry(0, 2, 2), 1);
        Due.due("26 is one", x.type(26, 0), 1);
    }

    // 9
    private static void many() {
        ProvenRecord x = Due.loaded("mod 101;add a;add b;freeze;fork 1;add c;show 1 2;to 0;show 1 2;show 3 2;");
        x.push(1);
        x.push(1);
        x.push(1);
        int[] many = {2, 101, 3, 1, 8, 2};
        for (int what = 0; what < many.length; what++) {
            Due.answered("many " + what, x, x.many(what), many[what]);
        }
        Due.refused("many", x, x.many(6), 1);
        Due.refused("many", x, x.many(-1), 1);
        Due.refused("many", x, x.many(LEAST), 1);
        x.add(9);
        x.fork(0, 9);
        x.freeze(9);
        x.show(0, 0, 9);
        x.meet(0, 0, 9);
        x.spoil(0, 0, 0, 1);
        Due.due("no ACTS with another STATUS", x.many(4), 8);
        x.add(0);
        x.fork(0, 1);
        x.freeze(0);
        x.show(0, 0, 1);
        x.meet(0, 0, 0);
        x.spoil(0, 0, 0, 2);
        Due.due("six ACTS", x.many(4), 14);
        x.meet(1, 3, 2);
        Due.due("an ACT with WHY 5", x.many(4), 15);
    }

    // 10
    private static void size() {
        ProvenRecord x = Due.loaded("add a;add b;fork 1;");
        Due.answered("size", x, x.size(0), 2);
        Due.answered("size", x, x.size(1), 1);
        Due.refused("size", x, x.size(2), 2);
        Due.refused("size", x, x.size(4), 2);
        Due.refused("size", x, x.size(-1), 2);
        Due.refused("size", x, x.size(LEAST), 2);
    }

    // 11
    private static void entry() {
        ProvenRecord x = Due.loaded("mod 101;add ab;add;add zzzzzzzz;");
        Due.answered("letters", x, x.entry(0, 0, 0), 2);
        // 12 * 12 + 3 * 12 + 2 + 7 = 189, less 101
        Due.answered("MARK", x, x.entry(0, 0, 1), 88);
        Due.answered("letter", x, x.entry(0, 0, 2), 1);
        Due.answered("letter", x, x.entry(0, 0, 3), 2);
        Due.refused("no letter", x, x.entry(0, 0, 4), 5);
        Due.answered("without letters", x, x.entry(0, 1, 0), 0);
        Due.answered("without letters", x, x.entry(0, 1, 1), 1);
        Due.refused("without letters", x, x.entry(0, 1, 2), 5);
        Due.answered("the 8th", x, x.entry(0, 2, 9), 26);
        Due.refused("a 9th", x, x.entry(0, 2, 10), 5);
        Due.refused("no letter", x, x.entry(0, 2, MOST), 5);
        Due.refused("none", x, x.entry(0, 3, 0), 5);
        Due.refused("no RECORD", x, x.entry(1, 0, 0), 2);
        Due.refused("no RECORD", x, x.entry(-1, 0, 0), 2);
        Due.refused("below 0", x, x.entry(0, -1, 0), 1);
        Due.refused("below 0", x, x.entry(0, 0, -1), 1);
        Due.refused("1 ahead of 2", x, x.entry(9, -1, 0), 1);
        Due.refused("2 ahead of 5", x, x.entry(9, 99, 0), 2);
    }

    // 12
    private static void head() {
        ProvenRecord x = Due.loaded(FIVE);
        int[] heads = {0, 12, 39, 93, 44, 89};
        for (int n = 0; n < heads.length; n++) {
            Due.answered("head " + n, x, x.head(0, n), heads[n]);
        }
        Due.refused("not so many", x, x.head(0, 6), 5);
        Due.refused("below 0", x, x.head(0, -1), 1);
        Due.refused("below 0", x, x.head(9, -1), 1);
        Due.refused("no RECORD", x, x.head(1, 9), 2);
        Due.refused("no RECORD", x, x.head(-1, 0), 2);
    }

    // 13
    private static void join() {
        ProvenRecord x = Due.loaded("mod 101;");
        Due.answered("join", x, x.join(12, 13), 39);
        Due.answered("join", x, x.join(39, 66), 44);
        // 17 * 17 + 51 + 7 = 347, less 303
        Due.answered("join", x, x.join(0, 0), 44);
        // 100 + 17 is 16: 256 + 48 + 100 + 7 = 411, less 404
        Due.answered("join", x, x.join(100, 100), 7);
        Due.refused("join", x, x.join(101, 0), 1);
        Due.refused("join", x, x.join(0, 101), 1);
        Due.refused("join", x, x.join(-1, 0), 1);
        Due.refused("join", x, x.join(0, -1), 1);
        ProvenRecord y = new ProvenRecord();
        // 65503 + 17 is 65520, or -1: 1 - 3 + 65520 + 7 = 65525, less 65521
        Due.answered("join", y, y.join(65503, 65520), 4);
        Due.refused("join", y, y.join(65521, 0), 1);
    }

    // 14
    private static void mark() {
        ProvenRecord x = Due.loaded("mod 101;");
        Due.answered("no word", x, x.mark(), 1);
        Due.type(x, "ab");
        Due.answered("ab", x, x.mark(), 88);
        x.load(0);
        Due.answered("ab by another M", x, x.mark(), 189);
        Due.type(x, "");
        Due.answered("no letters", x, x.mark(), 1);
    }

    // 15
    private static void frozen() {
        ProvenRecord x = Due.loaded("mod 101;freeze;add a;add b;freeze;fork 1;freeze;");
        int[][] due = {{0, 0, 0, 0, 1}, {0, 2, 39, 3, 1}, {1, 1, 12, 5, 1}};
        for (int i = 0; i < due.length; i++) {
            for (int what = 0; what < 5; what++) {
                Due.answered("frozen " + i + " " + what, x, x.frozen(i, what), due[i][what]);
            }
        }
        x.add(0);
        Due.answered("SOUND, more added", x, x.frozen(1, 4), 1);
        x.spoil(0, 1, 0, 26);
        Due.answered("not SOUND", x, x.frozen(1, 4), 0);
        Due.answered("MARK as it was", x, x.frozen(1, 2), 39);
        Due.answered("another RECORD", x, x.frozen(2, 4), 1);
        x.spoil(0, 1, 0, 2);
        Due.answered("SOUND again", x, x.frozen(1, 4), 1);
        Due.refused("none", x, x.frozen(3, 0), 5);
        Due.refused("none", x, x.frozen(MOST, 0), 5);
        Due.refused("what", x, x.frozen(0, 5), 1);
        Due.refused("what", x, x.frozen(9, -1), 1);
        Due.refused("below 0", x, x.frozen(-1, 0), 1);
    }

    // 16
    private static void watcher() {
        ProvenRecord x = Due.loaded("mod 101;add a;add b;add c;show 2 2;show 2 3;show 2 1;fork 2;add z;show 2 3;");
        int[] due = {3, 93, 1, 4};
        for (int what = 0; what < 4; what++) {
            Due.answered("watcher " + what, x, x.watcher(2, what), due[what]);
            Due.answered("another one", x, x.watcher(1, what), 0);
        }
        x.meet(2, 1, 0);
        Due.answered("to meet is not to be SHOWN", x, x.watcher(1, 3), 0);
        x.show(2, 0, 9);
        Due.due("nor is what is refused", x.watcher(2, 3), 4);
        Due.refused("what", x, x.watcher(0, 4), 1);
        Due.refused("what", x, x.watcher(9, -1), 1);
        Due.refused("none", x, x.watcher(4, 0), 2);
        Due.refused("none", x, x.watcher(-1, 0), 2);
    }

    // 17
    private static void add() {
        ProvenRecord x = new ProvenRecord();
        Due.answered("no word typed", x, x.add(0), 0);
        Due.type(x, "xyz");
        Due.answered("add", x, x.add(0), 1);
        Due.due("letters", x.entry(0, 0, 0), 0);
        Due.due("letters", x.entry(0, 1, 0), 3);
        Due.due("letters", x.entry(0, 1, 4), 26);
        Due.type(x, "q");
        Due.due("it stays", x.entry(0, 1, 2), 24);
        Due.refused("none", x, x.add(1), 2);
        Due.refused("none", x, x.add(-1), 2);
        for (int k = 2; k < 48; k++) {
            Due.answered("add", x, x.add(0), k);
        }
        Due.refused("a 49th", x, x.add(0), 3);
        Due.due("size", x.size(0), 48);
        x.fork(0, 1);
        Due.answered("of another RECORD", x, x.add(1), 1);
        Due.due("size", x.size(0), 48);
    }

    // 18
    private static void fork() {
        ProvenRecord x = Due.loaded(FIVE);
        Due.answered("fork", x, x.fork(0, 3), 1);
        Due.due("its HEAD", x.head(1, 3), 93);
        Due.due("its size", x.size(1), 3);
        Due.answered("fork of none", x, x.fork(0, 0), 2);
        x.spoil(0, 0, 0, 26);
        Due.due("a RECORD by itself", x.entry(1, 0, 2), 1);
        x.add(1);
        Due.due("a RECORD by itself", x.size(0), 5);
        Due.refused("below 0", x, x.fork(0, -1), 1);
        Due.refused("below 0", x, x.fork(9, -1), 1);
        Due.refused("none", x, x.fork(3, 0), 2);
        Due.refused("none", x, x.fork(-1, 9), 2);
        Due.refused("not so many", x, x.fork(0, 6), 5);
        Due.refused("not so many", x, x.fork(2, 1), 5);
        Due.answered("fork", x, x.fork(1, 4), 3);
        Due.refused("one too many", x, x.fork(0, 0), 3);
        Due.refused("one too many ahead of not so many", x, x.fork(0, 6), 3);
        Due.refused("no RECORD ahead of one too many", x, x.fork(4, 0), 2);
        Due.due("RECORDS", x.many(0), 4);
    }

    // 19
    private static void freeze() {
        ProvenRecord x = Due.loaded(FIVE);
        Due.answered("freeze", x, x.freeze(0), 0);
        Due.due("MARK", x.frozen(0, 2), 89);
        Due.due("size", x.frozen(0, 1), 5);
        Due.due("TICK", x.frozen(0, 3), 5);
        Due.refused("none", x, x.freeze(1), 2);
        Due.refused("none", x, x.freeze(-1), 2);
        for (int k = 1; k < 16; k++) {
            Due.answered("one size again", x, x.freeze(0), k);
        }
        Due.due("TICK", x.frozen(15, 3), 20);
        Due.refused("a 17th", x, x.freeze(0), 3);
        Due.due("FROZEN", x.many(3), 16);
    }

    // 20
    private static void show() {
        ProvenRecord x = Due.loaded(FIVE + "fork 3;add z;add y;add x;");
        Due.answered("at first", x, x.show(0, 0, 3), 0);
        Due.due("size", x.watcher(0, 0), 3);
        Due.due("HEAD", x.watcher(0, 1), 93);
        Due.answered("larger", x, x.show(0, 0, 5), 0);
        Due.due("HEAD", x.watcher(0, 1), 89);
        Due.answered("less", x, x.show(0, 0, 2), 0);
        Due.due("it TRUSTS the larger one", x.watcher(0, 0), 5);
        Due.answered("none of it", x, x.show(0, 0, 0), 0);
        Due.answered("as many", x, x.show(0, 0, 5), 0);
        Due.due("not ALARMED", x.many(5), 0);
        Due.answered("as many of another", x, x.show(0, 1, 5), 3);
        Due.due("ALARMED", x.many(5), 1);
        Due.due("it TRUSTS what it did", x.watcher(0, 1), 89);
        Due.answered("larger of another: 5 is not whole", x, x.show(0, 1, 6), 3);
        Due.due("it TRUSTS what it did", x.watcher(0, 0), 5);
        Due.answered("less of another, 3 of both: the newer one is not folded so", x, x.show(0, 1, 3), 4);
        Due.answered("still ALARMED", x, x.show(0, 0, 5), 0);
        Due.due("still ALARMED", x.watcher(0, 2), 1);
        Due.answered("4 is whole", x, x.show(1, 0, 4), 0);
        Due.answered("4 is whole: folded itself", x, x.show(1, 1, 6), 4);
        Due.due("ALARMED", x.many(5), 3);
        Due.answered("6 of one", x, x.show(2, 1, 6), 0);
        Due.answered("the other one has but 5", x, x.show(2, 0, 5), 5);
        Due.answered("even of none", x, x.show(2, 0, 0), 5);
        Due.due("not ALARMED by that", x.watcher(2, 2), 0);
        Due.due("SHOWN", x.watcher(2, 3), 3);
        Due.answered("nothing", x, x.show(3, 0, 0), 0);
        Due.refused("below 0", x, x.show(9, 9, -1), 1);
        Due.refused("no WATCHER", x, x.show(4, 0, 0), 2);
        Due.refused("no WATCHER", x, x.show(-1, 0, 9), 2);
        Due.refused("no RECORD", x, x.show(0, 2, 0), 2);
        Due.refused("not so many", x, x.show(0, 0, 6), 5);
        Due.due("SHOWN", x.watcher(3, 3), 1);
    }

    // 21
    private static void meet() {
        ProvenRecord x = Due.loaded(FIVE + "show 0 3;show 1 5;fork 3;add z;add y;add x;show 2 5;");
        Due.answered("meet, the lesser last", x, x.meet(1, 0, 0), 0);
        Due.due("it TRUSTS the larger one", x.watcher(0, 0), 5);
        Due.due("it TRUSTS the larger one", x.watcher(0, 1), 89);
        Due.answered("alike", x, x.meet(0, 1, 0), 0);
        Due.answered("alike by any RECORD", x, x.meet(0, 1, 1), 0);
        Due.answered("itself", x, x.meet(1, 1, 0), 0);
        Due.due("not ALARMED", x.many(5), 0);
        Due.answered("two of one size", x, x.meet(1, 2, 0), 3);
        Due.due("both ALARMED", x.many(5), 6);
        Due.due("it TRUSTS what it did", x.watcher(2, 0), 5);
        Due.answered("nothing yet", x, x.meet(3, 2, 0), 0);
        Due.due("it TRUSTS what the other one does", x.watcher(3, 1), x.watcher(2, 1));
        Due.due("not ALARMED itself", x.watcher(3, 2), 0);

        ProvenRecord y = Due.loaded(FIVE + "show 0 5;show 2 3;fork 4;add z;add y;show 1 6;");
        Due.answered("the RECORD has but 5", y, y.meet(0, 1, 0), 5);
        Due.due("not ALARMED by that", y.many(5), 0);
        Due.answered("5 are unlike", y, y.meet(0, 1, 1), 3);
        Due.due("both ALARMED", y.many(5), 3);
        Due.answered("3 are alike", y, y.meet(1, 2, 1), 0);
        Due.due("it TRUSTS 6", y.watcher(2, 0), 6);
        Due.refused("none", y, y.meet(4, 0, 0), 2);
        Due.refused("none", y, y.meet(0, -1, 0), 2);
        Due.refused("none", y, y.meet(0, 0, 2), 2);

        ProvenRecord z = Due.loaded("mod 101;add a;add b;show 0 2;add c;fork 1;add z;add c;show 1 3;");
        Due.answered("2 is whole: the newer one is another", z, z.meet(0, 1, 1), 4);
        Due.due("both ALARMED", z.many(5), 3);
    }

    // 22
    private static void spoil() {
        ProvenRecord x = Due.loaded("mod 101;add ab;add;");
        Due.answered("spoil", x, x.spoil(0, 0, 1, 26), 2);
        Due.due("letter", x.entry(0, 0, 3), 26);
        Due.due("the others", x.entry(0, 0, 2), 1);
        // 189 with 26 for 2: 213, less 202
        Due.due("MARK", x.entry(0, 0, 1), 11);
        Due.due("HEAD", x.head(0, 1), 11);
        Due.answered("spoil", x, x.spoil(0, 0, 0, 26), 1);
        Due.refused("it is that letter", x, x.spoil(0, 0, 0, 26), 5);
        Due.refused("no such letter", x, x.spoil(0, 0, 2, 1), 5);
        Due.refused("no such letter", x, x.spoil(0, 1, 0, 1), 5);
        Due.refused("no such ENTRY", x, x.spoil(0, 2, 0, 1), 5);
        Due.refused("no such RECORD", x, x.spoil(1, 0, 0, 1), 2);
        Due.refused("no such RECORD", x, x.spoil(-1, 9, 0, 1), 2);
        Due.refused("letter", x, x.spoil(0, 0, 0, 0), 1);
        Due.refused("letter", x, x.spoil(0, 0, 0, 27), 1);
        Due.refused("letter", x, x.spoil(9, 0, 0, -1), 1);
        Due.refused("below 0", x, x.spoil(9, 0, -1, 1), 1);
        Due.refused("below 0", x, x.spoil(0, -1, 0, 1), 1);
        Due.due("ACTS", x.many(4), 4);
    }

    // 23
    private static void push() {
        ProvenRecord x = Due.loaded("mod 101;");
        Due.refused("no MARK", x, x.push(101), 1);
        Due.refused("no MARK", x, x.push(-1), 1);
        for (int k = 1; k <= 64; k++) {
            Due.answered("push", x, x.push(k % 101), k);
        }
        Due.refused("a 65th", x, x.push(100), 3);
        Due.refused("no MARK ahead of that", x, x.push(101), 1);
        Due.due("the last", x.pad(63), 64);
        Due.due("0 and M less 1 are MARKS", x.cut(0) + x.push(0) + x.push(100), 3);
    }

    // 24
    private static void poke() {
        ProvenRecord x = Due.loaded("mod 101;");
        Due.setPad(x, 5, 6);
        Due.answered("poke", x, x.poke(1, 100), 6);
        Due.pad("poked", x, 5, 100);
        Due.answered("the same", x, x.poke(0, 5), 5);
        Due.refused("none", x, x.poke(2, 0), 5);
        Due.refused("none", x, x.poke(64, 0), 5);
        Due.refused("no MARK", x, x.poke(9, 101), 1);
        Due.refused("no MARK", x, x.poke(0, -1), 1);
        Due.refused("below 0", x, x.poke(-1, 0), 1);
        Due.pad("nothing else", x, 5, 100);
    }

    // 25
    private static void pad() {
        ProvenRecord x = new ProvenRecord();
        Due.setPad(x, 5, 65520);
        Due.answered("pad", x, x.pad(0), 5);
        Due.answered("pad", x, x.pad(1), 65520);
        Due.refused("none", x, x.pad(2), 5);
        Due.refused("none", x, x.pad(MOST), 5);
        Due.refused("below 0", x, x.pad(-1), 1);
    }

    // 26
    private static void cut() {
        ProvenRecord x = new ProvenRecord();
        Due.setPad(x, 5, 6, 7);
        Due.answered("all", x, x.cut(3), 3);
        Due.refused("not so many", x, x.cut(4), 5);
        Due.refused("below 0", x, x.cut(-1), 1);
        Due.pad("nothing else", x, 5, 6, 7);
        Due.answered("cut", x, x.cut(1), 1);
        Due.pad("cut", x, 5);
        Due.answered("cut", x, x.cut(0), 0);
        Due.pad("cut", x);
    }

    // 27
    private static void include() {
        ProvenRecord x = Due.loaded(FIVE);
        x.push(1);
        Due.answered("include", x, x.include(0, 2, 5), 3);
        Due.pad("2 of 5", x, 15, 39, 16);
        Due.answered("include", x, x.include(0, 4, 5), 1);
        Due.pad("4 of 5", x, 44);
        Due.answered("include", x, x.include(0, 1, 3), 2);
        Due.pad("1 of 3", x, 12, 14);
        Due.answered("include", x, x.include(0, 0, 1), 0);
        Due.pad("0 of 1", x);
        x.push(9);
        Due.refused("none of these", x, x.include(0, 3, 3), 5);
        Due.refused("not so many", x, x.include(0, 3, 6), 5);
        Due.refused("none of none", x, x.include(0, 0, 0), 5);
        Due.refused("below 0", x, x.include(9, -1, 3), 1);
        Due.refused("below 0", x, x.include(0, 0, -1), 1);
        Due.refused("no RECORD", x, x.include(1, 9, 9), 2);
        Due.refused("no RECORD", x, x.include(-1, 0, 1), 2);
        Due.pad("nothing else", x, 9);
    }

    // 28
    private static void grow() {
        ProvenRecord x = Due.loaded(FIVE);
        x.push(1);
        Due.answered("grow", x, x.grow(0, 3, 5), 4);
        Due.pad("3 to 5", x, 14, 15, 39, 16);
        Due.answered("grow", x, x.grow(0, 4, 5), 1);
        Due.pad("4 to 5", x, 16);
        Due.answered("grow", x, x.grow(0, 2, 5), 2);
        Due.pad("2 to 5", x, 66, 16);
        Due.answered("grow", x, x.grow(0, 1, 2), 1);
        Due.pad("1 to 2", x, 13);
        Due.answered("grow", x, x.grow(0, 0, 5), 0);
        Due.pad("0 to 5", x);
        x.push(1);
        Due.answered("grow", x, x.grow(0, 5, 5), 0);
        Due.pad("5 to 5", x);
        x.push(9);
        Due.refused("below 0", x, x.grow(0, -1, 3), 1);
        Due.refused("above n", x, x.grow(9, 4, 3), 1);
        Due.refused("no RECORD", x, x.grow(1, 1, 9), 2);
        Due.refused("not so many", x, x.grow(0, 1, 6), 5);
        Due.pad("nothing else", x, 9);
    }

    // 29
    private static void bundle() {
        ProvenRecord x = Due.loaded(FIVE);
        Due.answered("bundle", x, x.bundle(0, 1 << 1 | 1 << 4, 5), 2);
        Due.pad("1 and 4 of 5", x, 12, 66);
        Due.answered("bundle", x, x.bundle(0, 1, 5), 3);
        Due.pad("0 of 5", x, 13, 66, 16);
        Due.answered("bundle", x, x.bundle(0, 1 << 4, 5), 1);
        Due.pad("4 of 5", x, 44);
        Due.answered("bundle", x, x.bundle(0, 31, 5), 0);
        Due.pad("all of 5", x);
        x.push(9);
        Due.refused("empty", x, x.bundle(0, 0, 5), 1);
        Due.refused("below 0", x, x.bundle(9, LEAST, 5), 1);
        Due.refused("below 0", x, x.bundle(0, 1, -1), 1);
        Due.refused("no RECORD", x, x.bundle(1, 1, 9), 2);
        Due.refused("not so many", x, x.bundle(0, 1, 6), 5);
        Due.refused("none of these", x, x.bundle(0, 1 << 3, 3), 5);
        Due.refused("none of these", x, x.bundle(0, 3 << 2, 3), 5);
        Due.refused("none of these", x, x.bundle(0, 1 << 29, 5), 5);
        Due.refused("of none", x, x.bundle(0, 1, 0), 5);
        Due.refused("30 is none of these", x, x.bundle(0, 1 << 30, 5), 5);
        Due.refused("30 is none of these", x, x.bundle(0, 1 << 30 | 1, 5), 5);
        Due.refused("no RECORD, 30", x, x.bundle(1, 1 << 30, 5), 2);
        Due.pad("nothing else", x, 9);
        ProvenRecord none = new ProvenRecord();
        Due.refused("of none, 30 too", none, none.bundle(0, 1372976698, 0), 5);
        Due.refused("of none, most", none, none.bundle(0, MOST, 0), 5);
        ProvenRecord y = Due.loaded("add;".repeat(48));
        Due.answered("29 of 48", y, y.bundle(0, 1 << 29, 48), 6);
        Due.answered("every other one", y, y.bundle(0, 0x15555555, 48), 15 + 2);
        Due.refused("30 of 30", y, y.bundle(0, 1 << 30 | 1, 30), 5);
        Due.refused("30 is no ENTRY of a set, not even of 31", y, y.bundle(0, 1 << 30, 31), 5);
        Due.refused("0 to 30 of 31", y, y.bundle(0, MOST, 31), 5);
        Due.answered("0 to 29 of 31", y, y.bundle(0, (1 << 30) - 1, 31), 1);
    }

    // 30
    private static void peaks() {
        ProvenRecord x = Due.loaded(FIVE);
        Due.answered("peaks", x, x.peaks(0, 5), 2);
        Due.pad("5", x, 44, 16);
        Due.answered("peaks", x, x.peaks(0, 3), 2);
        Due.pad("3", x, 39, 14);
        Due.answered("peaks", x, x.peaks(0, 4), 1);
        Due.pad("4", x, 44);
        Due.answered("peaks", x, x.peaks(0, 0), 0);
        Due.pad("0", x);
        x.push(9);
        Due.refused("below 0", x, x.peaks(9, -1), 1);
        Due.refused("no RECORD", x, x.peaks(1, 9), 2);
        Due.refused("not so many", x, x.peaks(0, 6), 5);
        Due.pad("nothing else", x, 9);
        ProvenRecord y = Due.loaded("add;".repeat(48));
        Due.answered("peaks", y, y.peaks(0, 47), 5);
        Due.answered("peaks", y, y.peaks(0, 48), 2);
    }

    // 31
    private static void extend() {
        ProvenRecord x = Due.loaded("mod 101;");
        Due.answered("extend", x, x.extend(0, 12), 1);
        Due.pad("a", x, 12);
        Due.answered("extend", x, x.extend(1, 13), 1);
        Due.pad("ab", x, 39);
        Due.answered("extend", x, x.extend(2, 14), 2);
        Due.pad("abc", x, 39, 14);
        Due.answered("extend", x, x.extend(3, 15), 1);
        Due.pad("abcd", x, 44);
        Due.answered("extend", x, x.extend(4, 16), 2);
        Due.pad("abcde", x, 44, 16);
        Due.refused("not just as many", x, x.extend(4, 0), 5);
        Due.refused("not just as many", x, x.extend(7, 0), 5);
        Due.refused("not just as many", x, x.extend(0, 0), 5);
        Due.refused("below 0", x, x.extend(-1, 0), 1);
        Due.refused("above", x, x.extend(1000001, 0), 1);
        Due.refused("no MARK", x, x.extend(5, 101), 1);
        Due.refused("no MARK", x, x.extend(4, -1), 1);
        Due.pad("nothing else", x, 44, 16);
        // a million has the bits 11110100001001000000
        Due.setPad(x, 1, 2, 3, 4, 5, 6, 7);
        Due.answered("a million", x, x.extend(1000000, 9), 8);
        Due.pad("a million", x, 1, 2, 3, 4, 5, 6, 7, 9);
    }

    // 32
    private static void checks() {
        ProvenRecord x = Due.loaded(FIVE);
        x.include(0, 2, 5);
        Due.answered("TAKEN", x, x.checks(14, 2, 5, 89), 0);
        Due.answered("another MARK", x, x.checks(15, 2, 5, 89), 3);
        Due.answered("another HEAD", x, x.checks(14, 2, 5, 88), 3);
        Due.answered("another place", x, x.checks(14, 1, 5, 89), 3);
        Due.answered("too few", x, x.checks(14, 2, 9, 89), 1);
        Due.answered("too many", x, x.checks(14, 4, 5, 89), 2);
        Due.answered("too many", x, x.checks(14, 0, 1, 14), 2);
        Due.refused("below 0", x, x.checks(14, -1, 5, 89), 1);
        Due.refused("not below n", x, x.checks(14, 5, 5, 89), 1);
        Due.refused("no MARK", x, x.checks(101, 2, 5, 89), 1);
        Due.refused("no MARK", x, x.checks(14, 2, 5, -1), 1);
        x.cut(0);
        Due.answered("one alone", x, x.checks(7, 0, 1, 7), 0);
        Due.answered("too few of most", x, x.checks(7, MOST - 1, MOST, 7), 1);
    }

    // 33
    private static void growth() {
        ProvenRecord x = Due.loaded(FIVE);
        x.grow(0, 3, 5);
        Due.answered("TAKEN", x, x.growth(3, 93, 5, 89), 0);
        Due.answered("older", x, x.growth(3, 92, 5, 89), 3);
        Due.answered("newer", x, x.growth(3, 93, 5, 88), 4);
        Due.answered("older first", x, x.growth(3, 92, 5, 88), 3);
        Due.answered("too many", x, x.growth(4, 44, 5, 89), 2);
        Due.answered("too many, no MARKS wanted", x, x.growth(0, 0, 5, 89), 2);
        Due.answered("too many, no MARKS wanted", x, x.growth(5, 89, 5, 89), 2);
        Due.answered("too few", x, x.growth(3, 93, 9, 89), 1);
        x.grow(0, 4, 5);
        Due.answered("whole", x, x.growth(4, 44, 5, 89), 0);
        Due.answered("whole: the older one is folded itself", x, x.growth(4, 43, 5, 89), 4);
        x.cut(0);
        Due.answered("0 to 0", x, x.growth(0, 0, 0, 0), 0);
        Due.answered("0 to 0", x, x.growth(0, 1, 0, 1), 3);
        Due.answered("0 to 0", x, x.growth(0, 0, 0, 1), 3);
        Due.answered("0 to 0", x, x.growth(0, 1, 0, 0), 3);
        Due.answered("0 to any", x, x.growth(0, 0, 5, 77), 0);
        Due.answered("0 to any", x, x.growth(0, 1, 5, 77), 3);
        Due.answered("5 to 5", x, x.growth(5, 7, 5, 7), 0);
        Due.answered("5 to 5", x, x.growth(5, 7, 5, 8), 3);
        Due.answered("too few", x, x.growth(1, 7, MOST, 8), 1);
        Due.refused("below 0", x, x.growth(-1, 0, 5, 0), 1);
        Due.refused("above n", x, x.growth(6, 0, 5, 0), 1);
        Due.refused("no MARK", x, x.growth(1, 101, 5, 0), 1);
        Due.refused("no MARK", x, x.growth(1, 0, 5, -1), 1);
    }

    // 34
    private static void bundled() {
        ProvenRecord x = Due.loaded(FIVE);
        int set = 1 << 1 | 1 << 4;
        Due.setPad(x, 13, 16, 12, 66);
        Due.answered("TAKEN", x, x.bundled(set, 5, 89), 0);
        Due.answered("another HEAD", x, x.bundled(set, 5, 88), 3);
        Due.answered("another set", x, x.bundled(1 << 0 | 1 << 4, 5, 89), 3);
        x.poke(1, 15);
        Due.answered("another MARK", x, x.bundled(set, 5, 89), 3);
        Due.answered("too few", x, x.bundled(1 << 1 | 1 << 2, 9, 89), 1);
        Due.answered("as many, another set", x, x.bundled(1, 5, 89), 3);
        Due.answered("too many", x, x.bundled(1 << 4, 5, 89), 2);
        Due.setPad(x, 12, 13, 14, 15, 16);
        Due.answered("all of them", x, x.bundled(31, 5, 89), 0);
        Due.setPad(x, 7);
        Due.answered("one alone", x, x.bundled(1, 1, 7), 0);
        Due.answered("too few of most", x, x.bundled(1, MOST, 7), 1);
        Due.refused("empty", x, x.bundled(0, 5, 0), 1);
        Due.refused("below 0", x, x.bundled(-1, 5, 0), 1);
        Due.refused("below 0", x, x.bundled(1, -1, 0), 1);
        Due.refused("not below n", x, x.bundled(1, 0, 0), 1);
        Due.refused("not below n", x, x.bundled(33, 5, 0), 1);
        Due.refused("30 is not below n", x, x.bundled(1 << 30, 30, 0), 1);
        Due.refused("30 is not below n", x, x.bundled(1 << 30 | 1, 1, 0), 1);
        Due.refused("30 is no thing of a set, not even of 31", x, x.bundled(1 << 30, 31, 0), 1);
        Due.answered("too few for 29 of 31", x, x.bundled(1 << 29, 31, 0), 1);
        Due.refused("no MARK", x, x.bundled(1, 1, 101), 1);
        Due.refused("no MARK", x, x.bundled(1, 1, -1), 1);
    }

    // 35
    private static void fold() {
        ProvenRecord x = Due.loaded(FIVE);
        Due.answered("without MARKS", x, x.fold(), 0);
        x.peaks(0, 5);
        Due.answered("5", x, x.fold(), 89);
        x.peaks(0, 3);
        Due.answered("3", x, x.fold(), 93);
        Due.setPad(x, 7);
        Due.answered("one", x, x.fold(), 7);
        // 13 with 14: 30 * 30 + 90 + 14 + 7 = 1011 is 1; 12 with 1: 29 * 29 + 87 + 1 + 7 = 936 is 27
        Due.setPad(x, 12, 13, 14);
        Due.answered("three, the last first", x, x.fold(), 27);
        Due.pad("the PAD stays", x, 12, 13, 14);
    }

    // 36
    private static void steps() {
        ProvenRecord x = new ProvenRecord();
        int[] of5 = {3, 3, 3, 3, 1};
        for (int i = 0; i < 5; i++) {
            Due.answered("steps " + i, x, x.steps(i, 5), of5[i]);
        }
        Due.answered("one", x, x.steps(0, 1), 0);
        Due.answered("most", x, x.steps(0, MOST), 31);
        Due.answered("most", x, x.steps(MOST - 1, MOST), 30);
        Due.answered("a power and one", x, x.steps(1 << 30, (1 << 30) + 1), 1);
        Due.refused("below 0", x, x.steps(-1, 5), 1);
        Due.refused("not below n", x, x.steps(5, 5), 1);
        Due.refused("not below n", x, x.steps(0, 0), 1);
        Due.refused("not below n", x, x.steps(0, LEAST), 1);
    }

    // 37
    private static void climbs() {
        ProvenRecord x = new ProvenRecord();
        int[] to5 = {0, 3, 2, 4, 1, 0};
        for (int m = 0; m <= 5; m++) {
            Due.answered("climbs " + m, x, x.climbs(m, 5), to5[m]);
        }
        Due.answered("climbs", x, x.climbs(0, 0), 0);
        Due.answered("climbs", x, x.climbs(0, MOST), 0);
        Due.answered("climbs", x, x.climbs(1, MOST), 31);
        Due.answered("climbs", x, x.climbs(MOST, MOST), 0);
        Due.answered("climbs", x, x.climbs(MOST - 1, MOST), 31);
        Due.refused("below 0", x, x.climbs(-1, 5), 1);
        Due.refused("above n", x, x.climbs(6, 5), 1);
        Due.refused("above n", x, x.climbs(0, -1), 1);
    }

    // 38
    private static void agree() {
        ProvenRecord x = Due.loaded(FIVE + "show 0 2;show 1 5;fork 3;add z;show 2 4;");
        Due.answered("one RECORD", x, x.agree(0, 1), 1);
        Due.answered("one RECORD", x, x.agree(0, 2), 1);
        Due.answered("no RECORD has both", x, x.agree(1, 2), 0);
        Due.answered("nothing", x, x.agree(3, 2), 1);
        Due.answered("itself", x, x.agree(1, 1), 1);
        Due.refused("none", x, x.agree(4, 0), 2);
        Due.refused("none", x, x.agree(0, -1), 2);
        x.spoil(0, 0, 0, 9);
        Due.answered("no RECORD has it any more", x, x.agree(1, 1), 0);
        Due.answered("a fork still has it", x, x.agree(0, 2), 1);
        Due.answered("no RECORD has both", x, x.agree(3, 1), 0);
    }

    // 39
    private static void where() {
        ProvenRecord x = Due.loaded("add ab;add a;add;add a;add ba;fork 1;");
        Due.answered("no word typed", x, x.where(0, 0), 2);
        Due.type(x, "a");
        Due.answered("first", x, x.where(0, 0), 1);
        Due.answered("how many", x, x.where(0, 1), 2);
        Due.refused("none", x, x.where(1, 0), 5);
        Due.answered("how many", x, x.where(1, 1), 0);
        Due.type(x, "ba");
        Due.answered("first", x, x.where(0, 0), 4);
        ProvenRecord y = Due.loaded("mod 101;add ed;");
        Due.type(y, "a");
        Due.refused("by letters, not by MARKS", y, y.where(0, 0), 5);
        Due.answered("by letters, not by MARKS", y, y.where(0, 1), 0);
        Due.refused("what", x, x.where(9, 2), 1);
        Due.refused("what", x, x.where(0, -1), 1);
        Due.refused("no RECORD", x, x.where(2, 0), 2);
        Due.refused("no RECORD", x, x.where(-1, 1), 2);
    }

    // 40
    private static void tree() {
        ProvenRecord x = Due.loaded(FIVE);
        int[][] due = {{0, 5, 89}, {0, 4, 44}, {0, 2, 39}, {0, 1, 12}, {1, 1, 13}, {2, 2, 66}, {2, 1, 14}, {3, 1, 15},
            {4, 1, 16}};
        for (int k = 0; k < due.length; k++) {
            for (int what = 0; what < 3; what++) {
                Due.answered("tree " + k + " " + what, x, x.tree(0, 5, k, what), due[k][what]);
            }
        }
        Due.refused("none", x, x.tree(0, 5, 9, 0), 5);
        Due.refused("none", x, x.tree(0, 5, MOST, 0), 5);
        Due.answered("one alone", x, x.tree(0, 1, 0, 2), 12);
        Due.refused("none", x, x.tree(0, 1, 1, 0), 5);
        Due.refused("none of none", x, x.tree(0, 0, 0, 0), 5);
        Due.refused("not so many", x, x.tree(0, 6, 0, 0), 5);
        Due.refused("what", x, x.tree(9, 5, 0, 3), 1);
        Due.refused("what", x, x.tree(0, 5, 0, -1), 1);
        Due.refused("below 0", x, x.tree(9, 5, -1, 0), 1);
        Due.refused("below 0", x, x.tree(0, -1, 0, 0), 1);
        Due.refused("no RECORD", x, x.tree(1, 5, 0, 0), 2);
    }

    // 41
    private static void proves() {
        ProvenRecord x = Due.loaded("mod 101;add a;add b;add c;freeze;add d;freeze;add e;freeze;fork 3;freeze;add z;add y;freeze;");
        Due.answered("3 to 4", x, x.proves(0, 1), 0);
        Due.answered("3 to 5", x, x.proves(0, 2), 0);
        Due.answered("4 to 5", x, x.proves(1, 2), 0);
        Due.answered("to itself", x, x.proves(2, 2), 0);
        Due.answered("3 to 3 of another RECORD", x, x.proves(0, 3), 0);
        Due.answered("3 to 5 of another RECORD", x, x.proves(0, 4), 0);
        Due.answered("4 is whole, of another RECORD", x, x.proves(1, 4), 4);
        Due.answered("5 to 5 of another RECORD", x, x.proves(2, 4), 3);
        x.spoil(0, 0, 0, 26);
        Due.answered("MARKS as they are now", x, x.proves(0, 2), 3);
        Due.answered("MARKS of the latter", x, x.proves(0, 4), 0);
        Due.answered("4 is whole, and folded itself", x, x.proves(1, 2), 0);
        x.spoil(0, 4, 0, 26);
        Due.answered("the newer one is another", x, x.proves(1, 2), 4);
        Due.refused("the first is greater", x, x.proves(2, 0), 5);
        Due.refused("none", x, x.proves(5, 0), 5);
        Due.refused("none", x, x.proves(0, 5), 5);
        Due.refused("below 0", x, x.proves(-1, 9), 1);
        Due.refused("below 0", x, x.proves(9, -1), 1);
    }

    // 42
    private static void longest() {
        ProvenRecord x = new ProvenRecord();
        int[][] due = {{1, 0, 0, 0}, {2, 1, 0, 2}, {3, 2, 0, 5}, {5, 3, 0, 13}, {8, 3, 0, 24}, {512, 9, 0, 4608}};
        for (int[] one : due) {
            for (int what = 0; what < 3; what++) {
                Due.answered("longest " + one[0] + " " + what, x, x.longest(one[0], what), one[what + 1]);
            }
        }
        Due.refused("n", x, x.longest(0, 0), 1);
        Due.refused("n", x, x.longest(513, 0), 1);
        Due.refused("n", x, x.longest(-1, 0), 1);
        Due.refused("what", x, x.longest(5, 3), 1);
        Due.refused("what", x, x.longest(5, -1), 1);
    }

    // 43
    private static void part() {
        ProvenRecord x = Due.loaded(FIVE + "fork 3;add z;add e;add f;to 0;fork 2;fork 2;");
        Due.answered("at 3", x, x.part(0, 1, 0), 3);
        Due.answered("COMPARED abcd, ab, c", x, x.part(0, 1, 1), 3);
        Due.answered("at 2", x, x.part(2, 0, 0), 2);
        Due.answered("HEADS alike", x, x.part(2, 0, 1), 0);
        Due.answered("ALIKE", x, x.part(2, 3, 0), -1);
        Due.answered("ALIKE", x, x.part(2, 3, 1), 0);
        Due.answered("itself", x, x.part(1, 1, 0), -1);
        x.spoil(1, 0, 0, 26);
        Due.answered("the first one", x, x.part(0, 1, 0), 0);
        Due.answered("COMPARED abcd, ab, a", x, x.part(1, 0, 1), 3);
        Due.refused("what", x, x.part(9, 0, 2), 1);
        Due.refused("what", x, x.part(0, 0, -1), 1);
        Due.refused("none", x, x.part(4, 0, 0), 2);
        Due.refused("none", x, x.part(0, -1, 0), 2);
        ProvenRecord y = Due.loaded("mod 101;add a;fork 0;");
        Due.answered("one has none", y, y.part(0, 1, 0), 0);
        Due.answered("one has none", y, y.part(0, 1, 1), 0);
        ProvenRecord z = Due.loaded("mod 101;add a;fork 0;add z;");
        Due.answered("one ENTRY each", z, z.part(0, 1, 0), 0);
        Due.answered("one ENTRY each: none COMPARED", z, z.part(0, 1, 1), 0);
        // e is 16, then 16 * 16 + 48 + 4 + 7 = 315, less 303: ed has the MARK of a
        ProvenRecord v = Due.loaded("mod 101;add a;add b;fork 0;add ed;add b;fork 1;add c;");
        Due.answered("ALIKE by MARKS", v, v.part(0, 1, 0), -1);
        Due.answered("unlike by MARKS from 1 on", v, v.part(0, 2, 0), 1);
        Due.answered("COMPARED a with ed", v, v.part(0, 2, 1), 1);
    }

    // 44
    private static void blame() {
        ProvenRecord x = Due.loaded("mod 101;add a;freeze;add b;freeze;add c;freeze;add d;freeze;freeze;fork 4;freeze;");
        Due.answered("all SOUND", x, x.blame(0, 0), -1);
        Due.answered("all SOUND", x, x.blame(0, 1), -1);
        Due.answered("all SOUND", x, x.blame(0, 2), 0);
        x.spoil(0, 2, 0, 26);
        Due.answered("least", x, x.blame(0, 0), 3);
        Due.answered("greatest less than that", x, x.blame(0, 1), 2);
        Due.answered("how many", x, x.blame(0, 2), 3);
        Due.answered("another RECORD", x, x.blame(1, 2), 0);
        x.spoil(0, 0, 0, 26);
        Due.answered("least", x, x.blame(0, 0), 1);
        Due.answered("none SOUND", x, x.blame(0, 1), 0);
        Due.answered("how many", x, x.blame(0, 2), 5);
        x.freeze(0);
        Due.answered("SOUND, but not less", x, x.blame(0, 1), 0);
        ProvenRecord y = Due.loaded("add a;freeze;add b;freeze;");
        y.spoil(0, 1, 0, 26);
        y.freeze(0);
        Due.answered("one size is SOUND and not", y, y.blame(0, 0), 2);
        Due.answered("less than that", y, y.blame(0, 1), 1);
        Due.refused("what", x, x.blame(9, 3), 1);
        Due.refused("what", x, x.blame(0, -1), 1);
        Due.refused("none", x, x.blame(2, 0), 2);
        Due.refused("none", x, x.blame(-1, 0), 2);
    }

    // 45
    private static void weak() {
        ProvenRecord x = Due.loaded(FIVE);
        // 12 + 17 is 29; -3 less 29 is 69, which has the same 69 * 72: so 52 joins as 12 does, whatever follows
        Due.answered("one", x, x.weak(0, 0, 2, 0), 1);
        Due.answered("52", x, x.weak(0, 0, 2, 1), 52);
        Due.answered("a second one is told by the first", x, x.weak(0, 1, 2, 0), 0);
        Due.refused("none", x, x.weak(0, 1, 2, 1), 5);
        Due.answered("alone", x, x.weak(0, 0, 1, 0), 0);
        Due.refused("alone", x, x.weak(0, 0, 1, 1), 5);
        Due.answered("the last of 5", x, x.weak(0, 4, 5, 0), 0);
        Due.refused("below 0", x, x.weak(9, -1, 2, 0), 1);
        Due.refused("below 0", x, x.weak(0, 0, -1, 0), 1);
        Due.refused("what", x, x.weak(0, 0, 2, 2), 1);
        Due.refused("what", x, x.weak(0, 0, 2, -1), 1);
        Due.refused("no RECORD", x, x.weak(1, 0, 2, 0), 2);
        Due.refused("not so many", x, x.weak(0, 0, 6, 0), 5);
        Due.refused("none of these", x, x.weak(0, 2, 2, 0), 5);
        // d is 15, then 15 * 15 + 45 + 9 + 7 = 286, less 202: di is 84, of which 17 more is 0, as is 98 * 101
        ProvenRecord y = Due.loaded("mod 101;add di;add b;");
        Due.answered("a root of 0", y, y.weak(0, 0, 2, 0), 1);
        Due.answered("a root of 0", y, y.weak(0, 0, 2, 1), 81);
    }

    // 46
    private static void clash() {
        ProvenRecord x = Due.loaded(FIVE);
        x.include(0, 0, 2);
        clashIs(x, 0, 2, 52, 0, 12, 13, 52, 13);
        Due.refused("both are one in all", x, x.clash(0, 0, 2, 12, 0), 5);
        Due.refused("not TAKEN", x, x.clash(0, 0, 2, 53, 0), 5);
        Due.refused("below 0", x, x.clash(9, -1, 2, 52, 0), 1);
        Due.refused("below 0", x, x.clash(9, 0, -1, 52, 0), 1);
        Due.refused("no MARK", x, x.clash(0, 0, 2, 101, 0), 1);
        Due.refused("no MARK", x, x.clash(0, 0, 2, -1, 0), 1);
        Due.refused("what", x, x.clash(0, 0, 2, 52, 5), 1);
        Due.refused("what", x, x.clash(0, 0, 2, 52, -1), 1);
        Due.refused("no RECORD", x, x.clash(1, 0, 2, 52, 0), 2);
        Due.refused("not so many", x, x.clash(0, 0, 6, 52, 0), 5);
        Due.refused("none of these", x, x.clash(0, 2, 2, 52, 0), 5);
        Due.setPad(x, 13, 1);
        Due.refused("too many MARKS", x, x.clash(0, 0, 2, 52, 0), 5);
        x.cut(0);
        Due.refused("alone", x, x.clash(0, 0, 1, 12, 0), 5);
        // 14 joins 89 to 39 as 12 does 13: 31 * 31 + 93 + 89 + 7 = 1150, less 1111
        Due.setPad(x, 89, 66, 16);
        clashIs(x, 0, 5, 14, 0, 12, 13, 14, 89);
        // 39 + 17 is 56; -3 less 56 is 42: so 25 with 66 is 44, too; 13 with x is 25: 30 * 30 + 90 + x + 7 = 997 + x
        Due.setPad(x, 38, 66, 16);
        Due.answered("13 with 38", x, x.join(13, 38), 25);
        clashIs(x, 0, 5, 13, 1, 39, 66, 25, 66);
        // of 3: first d, with 66 as its second; 12 with 54 is 66 as 14 with 15: 29 * 29 + 87 + x + 7 = 935 + x
        Due.setPad(x, 14, 39, 16);
        Due.refused("all one", x, x.clash(0, 3, 5, 15, 0), 5);
        Due.setPad(x, 12, 39, 16);
        clashIs(x, 3, 5, 40, 0, 14, 15, 12, 40);
    }

    private static void clashIs(ProvenRecord x, int i, int n, int mark, int... due) {
        for (int what = 0; what < 5; what++) {
            Due.answered("clash " + i + " of " + n + ": " + what, x, x.clash(0, i, n, mark, what), due[what]);
        }
    }

    // 47
    private static void forge() {
        ProvenRecord x = Due.loaded(FIVE);
        x.push(13);
        Due.answered("as it is", x, x.forge(12, 0, 2, 39, 0), 13);
        Due.answered("of 14", x, x.forge(14, 0, 2, 39, 0), 89);
        Due.answered("the least of 12, 52", x, x.forge(13, 1, 2, 39, 0), 12);
        Due.pad("the PAD stays", x, 13);
        Due.refused("no k-th", x, x.forge(12, 0, 2, 39, 1), 5);
        Due.refused("too many MARKS", x, x.forge(12, 0, 1, 39, 0), 5);
        Due.refused("too few MARKS", x, x.forge(12, 0, 3, 39, 0), 5);
        Due.refused("below 0", x, x.forge(12, -1, 2, 39, 0), 1);
        Due.refused("not below n", x, x.forge(12, 2, 2, 39, 0), 1);
        Due.refused("below 0", x, x.forge(12, 0, 2, 39, -1), 1);
        Due.refused("no MARK", x, x.forge(101, 0, 2, 39, 0), 1);
        Due.refused("no MARK", x, x.forge(12, 0, 2, -1, 0), 1);
        forgeAll(101, 12, 19);
        forgeAll(169, 5, 6);
        forgeAll(128, 100000, 2000000000);
    }

    /** Each place of a PAD: the least that would be TAKEN there, or none. */
    private static void forgeAll(int m, int i, int n) {
        ProvenRecord asked = Due.loaded("mod " + m + ";");
        int[] row = new int[asked.steps(i, n)];
        boolean[] ahead = new boolean[row.length];
        for (int k = 0; k < row.length; k++) {
            row[k] = (7 * k + 1) % m;
            ahead[k] = asked.span(i, n, k, 0) < i;
        }
        for (int head = 0; head < m; head += 3) {
            ProvenRecord x = Due.loaded("mod " + m + ";");
            Due.setPad(x, row);
            for (int k = 0; k < row.length; k++) {
                int least = leastForged(m, row, ahead, head, k);
                int got = x.forge(5, i, n, head, k);
                Due.due("forge " + head + " at " + k, got, least);
                Due.due("forge " + head + " at " + k + ", status()", x.status(), least < 0 ? 5 : 0);
            }
        }
    }

    private static int leastForged(int m, int[] row, boolean[] ahead, int head, int k) {
        int[] other = row.clone();
        for (int mark = 0; mark < m; mark++) {
            other[k] = mark;
            int folded = 5;
            for (int step = 0; step < other.length; step++) {
                folded = ahead[step] ? Due.join(m, other[step], folded) : Due.join(m, folded, other[step]);
            }
            if (folded == head) {
                return mark;
            }
        }
        return -1;
    }

    // 48
    private static void trace() {
        ProvenRecord x = Due.loaded(FIVE);
        x.include(0, 2, 5);
        int[] due = {14, 66, 44, 89};
        for (int k = 0; k < due.length; k++) {
            Due.answered("trace " + k, x, x.trace(14, 2, 5, k), due[k]);
        }
        Due.refused("not so many STEPS", x, x.trace(14, 2, 5, 4), 5);
        Due.refused("not so many STEPS", x, x.trace(14, 4, 5, 2), 5);
        Due.answered("PAD longer", x, x.trace(14, 4, 5, 0), 14);
        x.cut(1);
        Due.answered("PAD shorter", x, x.trace(14, 2, 5, 1), 66);
        Due.refused("not so many MARKS", x, x.trace(14, 2, 5, 2), 5);
        Due.refused("below 0", x, x.trace(14, -1, 5, 0), 1);
        Due.refused("not below n", x, x.trace(14, 5, 5, 0), 1);
        Due.refused("below 0", x, x.trace(14, 2, 5, -1), 1);
        Due.refused("no MARK", x, x.trace(101, 2, 5, 9), 1);
    }

    // 49
    private static void span() {
        ProvenRecord x = new ProvenRecord();
        int[][] due = {{3, 1}, {0, 2}, {4, 1}};
        for (int k = 0; k < due.length; k++) {
            Due.answered("span " + k, x, x.span(2, 5, k, 0), due[k][0]);
            Due.answered("span " + k, x, x.span(2, 5, k, 1), due[k][1]);
        }
        Due.answered("span", x, x.span(0, MOST, 30, 0), 1 << 30);
        Due.answered("span", x, x.span(0, MOST, 30, 1), MOST - (1 << 30));
        Due.refused("none", x, x.span(2, 5, 3, 0), 5);
        Due.refused("none", x, x.span(0, 1, 0, 0), 5);
        Due.refused("below 0", x, x.span(-1, 5, 0, 0), 1);
        Due.refused("not below n", x, x.span(5, 5, 0, 0), 1);
        Due.refused("below 0", x, x.span(2, 5, -1, 0), 1);
        Due.refused("what", x, x.span(2, 5, 0, 2), 1);
        Due.refused("what", x, x.span(2, 5, 9, -1), 1);
    }

    // 50
    private static void rise() {
        ProvenRecord x = new ProvenRecord();
        int[][] due = {{2, 1}, {3, 1}, {0, 2}, {4, 1}};
        for (int k = 0; k < due.length; k++) {
            Due.answered("rise " + k, x, x.rise(3, 5, k, 0), due[k][0]);
            Due.answered("rise " + k, x, x.rise(3, 5, k, 1), due[k][1]);
        }
        Due.answered("whole", x, x.rise(4, 7, 0, 0), 4);
        Due.answered("whole", x, x.rise(4, 7, 0, 1), 3);
        Due.refused("none", x, x.rise(4, 7, 1, 0), 5);
        Due.refused("none", x, x.rise(0, 7, 0, 0), 5);
        Due.refused("none", x, x.rise(7, 7, 0, 0), 5);
        Due.refused("below 0", x, x.rise(-1, 5, 0, 0), 1);
        Due.refused("above n", x, x.rise(6, 5, 0, 0), 1);
        Due.refused("below 0", x, x.rise(3, 5, -1, 0), 1);
        Due.refused("what", x, x.rise(3, 5, 0, 2), 1);
        Due.refused("what", x, x.rise(3, 5, 9, -1), 1);
    }

    // 51
    private static void kept() {
        ProvenRecord x = new ProvenRecord();
        // 2 of 5: d, ab, e; 2 of 7: d, ab, efg; 4 of 5: abcd; 4 of 6: f, abcd
        Due.answered("kept", x, x.kept(2, 5, 7), 2);
        Due.answered("kept", x, x.kept(4, 5, 6), 1);
        Due.answered("the same", x, x.kept(2, 5, 5), 3);
        Due.answered("alone", x, x.kept(0, 1, 9), 0);
        Due.answered("most", x, x.kept(0, 1 << 30, MOST), 30);
        Due.refused("below 0", x, x.kept(-1, 5, 7), 1);
        Due.refused("not below n", x, x.kept(5, 5, 7), 1);
        Due.refused("r below n", x, x.kept(2, 5, 4), 1);
    }

    // 52
    private static void sick() {
        ProvenRecord x = Due.loaded("mod 101;freeze;add a;add b;add c;add d;add e;freeze;fork 5;freeze;");
        Due.answered("none", x, x.sick(1), 0);
        x.spoil(0, 4, 0, 26);
        Due.answered("the last", x, x.sick(1), 2);
        x.spoil(0, 1, 0, 26);
        Due.answered("both", x, x.sick(1), 3);
        x.spoil(0, 4, 0, 5);
        Due.answered("the first", x, x.sick(1), 1);
        Due.answered("of nothing", x, x.sick(0), 0);
        Due.answered("another RECORD", x, x.sick(2), 0);
        x.freeze(0);
        Due.answered("as it was then", x, x.sick(3), 0);
        Due.refused("below 0", x, x.sick(-1), 1);
        Due.refused("none", x, x.sick(4), 5);
    }

    // 53
    private static void chain() {
        ProvenRecord x = Due.loaded("freeze;add;add;add;freeze;freeze;add;add;freeze;add;freeze;fork 3;freeze;");
        // 0 to 3 none; 3 to 5: c, d, ab, e; 5 to 6: e, f, abcd
        Due.answered("HEADS", x, x.chain(0, 0), 4);
        Due.answered("MARKS", x, x.chain(0, 1), 7);
        Due.answered("LINKS: e once", x, x.chain(0, 2), 6);
        Due.answered("one HEAD", x, x.chain(1, 0), 1);
        Due.answered("one HEAD", x, x.chain(1, 1), 0);
        Due.answered("one HEAD", x, x.chain(1, 2), 0);
        Due.refused("what", x, x.chain(9, 3), 1);
        Due.refused("what", x, x.chain(0, -1), 1);
        Due.refused("none", x, x.chain(2, 0), 2);
        Due.refused("none", x, x.chain(-1, 0), 2);
        ProvenRecord z = Due.loaded("add;freeze;".repeat(16));
        Due.answered("16 HEADS", z, z.chain(0, 0), 16);
        int marks = 0;
        for (int m = 1; m < 16; m++) {
            marks += z.climbs(m, m + 1);
        }
        Due.answered("MARKS of 15", z, z.chain(0, 1), marks);
    }

    // 54
    private static void split() {
        ProvenRecord x = Due.loaded(FIVE + "show 1 5;fork 3;add z;show 2 4;");
        Due.answered("one couple", x, x.split(0), 1);
        Due.answered("1 and 2", x, x.split(1), 12);
        x.show(3, 1, 4);
        Due.answered("two couples", x, x.split(0), 2);
        Due.answered("the first", x, x.split(1), 12);
        x.show(0, 0, 4);
        Due.answered("four couples", x, x.split(0), 4);
        Due.answered("the first", x, x.split(1), 2);
        Due.refused("what", x, x.split(2), 1);
        Due.refused("what", x, x.split(-1), 1);
        ProvenRecord y = new ProvenRecord();
        Due.answered("none", y, y.split(0), 0);
        Due.refused("none", y, y.split(1), 5);
    }

    private static void told(String call, ProvenRecord x, int bytes, String text) {
        Due.answered(call, x, bytes, text.length());
        if (!Due.out(x, bytes).equals(text)) {
            Due.due(call + ": '" + Due.out(x, bytes) + "' is '" + text + "'", 0, 1);
        }
        Due.refused("the end of OUT", x, x.out(bytes), 5);
    }

    // 55
    private static void tell() {
        ProvenRecord x = Due.loaded(FIVE);
        told("tell", x, x.tell(0, 2, 5), "in 2 of 5 mark 14 head 89 by 15 39 16;");
        told("tell", x, x.tell(0, 0, 1), "in 0 of 1 mark 12 head 12 by;");
        Due.refused("below 0", x, x.tell(9, -1, 5), 1);
        Due.refused("below 0", x, x.tell(0, 0, -1), 1);
        Due.refused("no RECORD", x, x.tell(1, 0, 1), 2);
        Due.refused("not so many", x, x.tell(0, 0, 6), 5);
        Due.refused("none of these", x, x.tell(0, 2, 2), 5);
        Due.due("OUT stays", x.out(3), '0');
        Due.due("the PAD stays", x.many(2), 0);
        ProvenRecord y = Due.loaded("add;".repeat(48));
        int bytes = y.tell(0, 10, 48);
        int n = Due.feed(y, Due.out(y, bytes));
        Due.answered("what is told is TAKEN", y, y.hear(n), 1);
        // a number of each length, 0 too: M 101 has 0 as MARK of e with f
        ProvenRecord z = Due.loaded("mod 101;add e;add f;add a;");
        told("0", z, z.tell(0, 2, 3), "in 2 of 3 mark 12 head " + z.head(0, 3) + " by 0;");
    }

    // 56
    private static void tellGrowth() {
        ProvenRecord x = Due.loaded(FIVE);
        told("tellGrowth", x, x.tellGrowth(0, 3, 5), "grow 3 mark 93 to 5 head 89 by 14 15 39 16;");
        told("tellGrowth", x, x.tellGrowth(0, 0, 5), "grow 0 mark 0 to 5 head 89 by;");
        told("tellGrowth", x, x.tellGrowth(0, 5, 5), "grow 5 mark 89 to 5 head 89 by;");
        told("tellGrowth", x, x.tellGrowth(0, 0, 0), "grow 0 mark 0 to 0 head 0 by;");
        Due.refused("below 0", x, x.tellGrowth(9, -1, 5), 1);
        Due.refused("above n", x, x.tellGrowth(9, 4, 3), 1);
        Due.refused("no RECORD", x, x.tellGrowth(1, 0, 9), 2);
        Due.refused("not so many", x, x.tellGrowth(0, 0, 6), 5);
        Due.due("OUT stays", x.out(5), '0');
        ProvenRecord y = Due.loaded("add zzzz;".repeat(48));
        int bytes = y.tellGrowth(0, 43, 48);
        int n = Due.feed(y, Due.out(y, bytes));
        Due.answered("what is told is TAKEN", y, y.hear(n), 1);
    }

    // 57
    private static void out() {
        ProvenRecord x = Due.loaded(FIVE);
        Due.refused("nothing told", x, x.out(0), 5);
        x.tell(0, 0, 1);
        Due.answered("out", x, x.out(0), 'i');
        Due.answered("out", x, x.out(2), ' ');
        Due.answered("out", x, x.out(28), ';');
        Due.refused("none", x, x.out(29), 5);
        Due.refused("none", x, x.out(MOST), 5);
        Due.refused("below 0", x, x.out(-1), 1);
        x.tellGrowth(0, 0, 0);
        Due.answered("the latest", x, x.out(0), 'g');
    }

    // 58
    private static void trusted() {
        ProvenRecord x = Due.loaded(FIVE + "show 0 5;show 2 5;show 1 3;");
        Due.answered("two", x, x.trusted(5, 89), 2);
        Due.answered("one", x, x.trusted(3, 93), 1);
        Due.answered("one", x, x.trusted(0, 0), 1);
        Due.answered("another HEAD", x, x.trusted(5, 93), 0);
        Due.answered("another size", x, x.trusted(4, 89), 0);
        Due.answered("most", x, x.trusted(MOST, 0), 0);
        Due.refused("below 0", x, x.trusted(-1, 0), 1);
        Due.refused("no MARK", x, x.trusted(0, 101), 1);
        Due.refused("no MARK", x, x.trusted(0, -1), 1);
    }

    // 59
    private static void saves() {
        ProvenRecord x = new ProvenRecord();
        Due.answered("1 and 4 of 5: 3 and 1, less 2", x, x.saves(1 << 1 | 1 << 4, 5), 2);
        Due.answered("one", x, x.saves(1, 5), 0);
        Due.answered("all of 5", x, x.saves(31, 5), 13);
        Due.answered("one alone", x, x.saves(1, 1), 0);
        Due.answered("two of most", x, x.saves(3, MOST), 31 + 31 - 30);
        Due.answered("29 of 30", x, x.saves(1 << 29, 30), 0);
        Due.refused("empty", x, x.saves(0, 5), 1);
        Due.refused("below 0", x, x.saves(-1, 5), 1);
        Due.refused("not below n", x, x.saves(1 << 5, 5), 1);
        Due.refused("not below n", x, x.saves(1, 0), 1);
        Due.refused("not below n", x, x.saves(1, LEAST), 1);
        Due.refused("30 is not below n", x, x.saves(1 << 30, 30), 1);
        Due.refused("30 is no thing of a set, not even of 31", x, x.saves(1 << 30, 31), 1);
        Due.refused("0 and 30 of 31", x, x.saves(1 << 30 | 1, 31), 1);
        Due.answered("0 and 29 of 31: 5 and 5, less 8", x, x.saves(1 << 29 | 1, 31), 2);
    }

    // 60
    private static void who() {
        ProvenRecord x = Due.loaded(FIVE + "fork 3;add z;to 0;fork 5;add f;");
        Due.answered("all", x, x.who(3, 93), 7);
        Due.answered("two", x, x.who(5, 89), 5);
        Due.answered("one", x, x.who(4, x.head(1, 4)), 2);
        Due.answered("none", x, x.who(4, 0), 0);
        Due.answered("of nothing", x, x.who(0, 0), 7);
        Due.answered("of nothing", x, x.who(0, 1), 0);
        Due.answered("none has so many", x, x.who(MOST, 0), 0);
        Due.refused("below 0", x, x.who(-1, 0), 1);
        Due.refused("no MARK", x, x.who(0, 101), 1);
        Due.refused("no MARK", x, x.who(0, -1), 1);
    }
}
