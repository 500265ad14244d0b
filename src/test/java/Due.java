/** Compares answers with those that are due, and counts what is wrong. */
final class Due {
    private static int wrong = 0;
    private static int seen = 0;

    private Due() {
    }

    static void due(String call, int got, int want) {
        seen++;
        if (got != want) {
            wrong++;
            System.out.println(call + " answered " + got + ", due is " + want);
        }
    }

    /** A call that is refused: NONE, with a STATUS. */
    static void refused(String call, ProvenRecord x, int got, int status) {
        due(call, got, ProvenRecord.NONE);
        due(call + ", status()", x.status(), status);
    }

    /** A call that is answered: with STATUS 0. */
    static void answered(String call, ProvenRecord x, int got, int want) {
        due(call, got, want);
        due(call + ", status()", x.status(), 0);
    }

    static int wrong() {
        return wrong;
    }

    static int seen() {
        return seen;
    }

    /** MARK of two MARKS, reckoned here. */
    static int join(int m, int first, int second) {
        return mix(m, mix(m, 2, first), second);
    }

    static int mix(int m, int h, int x) {
        return (int) (((long) h * h + 3L * h + x + 7) % m);
    }

    static void end() {
        System.out.println(seen + " answers, " + wrong + " of them not as due");
        if (wrong != 0) {
            System.exit(1);
        }
    }

    /** Puts a text on the tape, filled up with zeros to whole twenties: how long the text is. */
    static int feed(ProvenRecord x, String text) {
        for (int at = 0; at < text.length(); at += 20) {
            int[] five = new int[5];
            for (int k = 0; k < 20 && at + k < text.length(); k++) {
                five[k / 4] |= (text.charAt(at + k) & 255) << 8 * (3 - k % 4);
            }
            x.feed(five[0], five[1], five[2], five[3], five[4]);
        }
        return text.length();
    }

    static ProvenRecord loaded(String text) {
        ProvenRecord x = new ProvenRecord();
        if (x.load(feed(x, text)) < 1) {
            throw new IllegalStateException("a test's own text is wrong at " + x.fault(1) + ": " + text);
        }
        return x;
    }

    static void type(ProvenRecord x, String word) {
        int a = 0;
        int b = 0;
        for (int k = 0; k < word.length(); k++) {
            int letter = word.charAt(k) - 'a' + 1;
            if (k < 6) {
                a |= letter << 5 * k;
            } else {
                b |= letter << 5 * (k - 6);
            }
        }
        due("type " + word, x.type(a, b), word.length());
    }

    static void pad(String call, ProvenRecord x, int... marks) {
        due(call + ", how many", x.many(2), marks.length);
        for (int k = 0; k < marks.length; k++) {
            due(call + ", pad(" + k + ")", x.pad(k), marks[k]);
        }
    }

    static void setPad(ProvenRecord x, int... marks) {
        x.cut(0);
        for (int mark : marks) {
            x.push(mark);
        }
    }

    static String out(ProvenRecord x, int bytes) {
        StringBuilder text = new StringBuilder();
        for (int k = 0; k < bytes; k++) {
            text.append((char) x.out(k));
        }
        return text.toString();
    }
}
