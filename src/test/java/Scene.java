/** What the tests share: plans, drafts, letters bent to any bits, and how answers are compared. */
abstract class Scene {
    static final int STILL = 0;
    static final int TIED = 1;
    static final int RUNNING = 2;
    static final int CLOCKED = 3;
    static final int FREE = 4;

    static final int WHOLE = 0;
    static final int PART = 1;
    static final int SHORT = 2;
    static final int ACK = 3;
    static final int NACK = 4;
    static final int STALE = 5;

    static final int TAKEN = 0;
    static final int LATE = 1;
    static final int FAR = 2;
    static final int NONE = 3;
    static final int UNLIKE = 4;
    static final int BROKEN = 5;

    static final int MIN = Integer.MIN_VALUE;
    static final int MAX = Integer.MAX_VALUE;
    static final int[] OUT_OF_8 = {-1, 8, MIN, MAX, 9, -8};

    static void due(String call, long got, long want) {
        Due.is(call, got, want);
    }

    /** STILL 8; TIED 8 to it by 5; RUNNING 16; CLOCKED 20 by 10; FREE 5. */
    static Line mixed(int w) {
        Line x = new Line(w);
        x.field(STILL, 8, 0, 0);
        x.field(TIED, 8, 0, 5);
        x.field(RUNNING, 16, 0, 0);
        x.field(CLOCKED, 20, 0, 10);
        x.field(FREE, 5, 0, 0);
        return x;
    }

    static Line single(int w, int kind, int width) {
        Line x = new Line(w);
        due("field", x.field(kind, width, 0, kind == CLOCKED ? 1 : 0), 0);
        return x;
    }

    static void draft(Line x, long... values) {
        for (int f = 0; f < values.length; f++) {
            x.set(f, values[f]);
        }
    }

    /** STALE letters of FLOW 7 until there are 200. */
    static void fill(Line x) {
        for (int l = x.count(1); l < 200; l++) {
            due("one of the 200", x.nack(7), l);
        }
    }

    static String bits(long value, int n) {
        StringBuilder text = new StringBuilder();
        for (int i = n - 1; i >= 0; i--) {
            text.append(value >> i & 1);
        }
        return text.toString();
    }

    static String beginning(int kind, int flow, int number) {
        return bits(kind, 3) + bits(flow, 3) + bits(number, 16);
    }

    static String sum(long... values) {
        long sum = 17;
        for (long value : values) {
            sum = (sum * 31 + value) % 256;
        }
        return bits(sum, 8);
    }

    /** The bytes of a row of bits that may stand in groups, filled with 0 bits, and CHECK if it has one. */
    static int[] bytesOf(String spaced, boolean hasCheck) {
        StringBuilder text = new StringBuilder(spaced.replace(" ", ""));
        while (text.length() % 8 != 0) {
            text.append('0');
        }
        int[] bytes = new int[text.length() / 8 + (hasCheck ? 1 : 0)];
        int total = 0;
        for (int k = 0; k < text.length() / 8; k++) {
            bytes[k] = Integer.parseInt(text.substring(8 * k, 8 * k + 8), 2);
            total += bytes[k];
        }
        if (hasCheck) {
            bytes[bytes.length - 1] = 255 - total % 256;
        }
        return bytes;
    }

    static void dueBits(Line x, int l, String spaced, boolean hasCheck) {
        due("bits of LETTER " + l, x.look(l, 4), spaced.replace(" ", "").length());
        int[] bytes = bytesOf(spaced, hasCheck);
        due("bytes of LETTER " + l, x.look(l, 3), bytes.length);
        for (int k = 0; k < bytes.length; k++) {
            due("octet(" + l + ", " + k + ")", x.octet(l, k), bytes[k]);
        }
    }

    /** Bends LETTER l until its bytes are these: it must have as many. */
    static void become(Line x, int l, int[] bytes) {
        due("bytes of the LETTER to be bent", x.look(l, 3), bytes.length);
        for (int k = 0; k < bytes.length; k++) {
            int mask = bytes[k] ^ x.octet(l, k);
            if (mask != 0) {
                due("bend(" + l + ", " + k + ", " + mask + ")", x.bend(l, k, mask), bytes[k]);
            }
        }
    }

    static void become(Line x, int l, String spaced, boolean hasCheck) {
        become(x, l, bytesOf(spaced, hasCheck));
    }

    /** Turns bits of a byte and sets CHECK right again, so that only the turned bits can be at fault. */
    static void bendAndMend(Line x, int l, int k, int mask) {
        x.bend(l, k, mask);
        int last = x.look(l, 3) - 1;
        int total = 0;
        for (int i = 0; i < last; i++) {
            total += x.octet(l, i);
        }
        int wanted = 255 - total % 256;
        int stands = x.octet(l, last);
        if (wanted != stands) {
            x.bend(l, last, wanted ^ stands);
        }
    }

    static void dueGot(Line x, long... values) {
        for (int f = 0; f < values.length; f++) {
            due("got(" + f + ")", x.got(f), values[f]);
        }
    }

    static void dueWays(Line x, int... ways) {
        for (int f = 0; f < ways.length; f++) {
            due("way(" + f + ")", x.way(f), ways[f]);
        }
    }

    static void dueHung(Line x, int... answers) {
        for (int what = 0; what < answers.length; what++) {
            due("hung(" + what + ")", x.hung(what), answers[what]);
        }
    }

    static void dueSqueezer(Line x, int flow, int... answers) {
        for (int what = 0; what < answers.length; what++) {
            due("squeezer(" + flow + ", " + what + ")", x.squeezer(flow, what), answers[what]);
        }
    }

    static void dueContext(Line x, int flow, int... answers) {
        for (int what = 0; what < answers.length; what++) {
            due("context(" + flow + ", " + what + ")", x.context(flow, what), answers[what]);
        }
    }
}
