/** The sentences about the SQUEEZER and how it tells a HEADER: a test for each. */
final class SqueezerSentences extends Scene {
    private SqueezerSentences() {
    }

    static void all() {
        numberCountsHeaders();
        roundCountsWholeLetters();
        stridesAtFirst();
        referencesAtFirst();
        owesAtFirst();
        stillGives();
        tiedGives();
        runningGives();
        clockedGives();
        freeGives();
        foundInSmallFields();
        foundAtTheEndsOfItsSpan();
        foundByNoBits();
        servesEachReference();
        servesAtWidth();
        numberOfATold();
        wholeIfWanted();
        wholeIfOwed();
        wholeWithoutReferences();
        shortIfEachGives();
        elsePart();
        wholeBeginsARound();
        moreThanW();
        strideBecomes();
        strideRefusals();
        sendTellsTheDraft();
        sendRefusals();
        squeezerTells();
        squeezerRefusals();
        forgetReferences();
    }

    private static void numberCountsHeaders() {
        Doc.terms("THE SQUEEZER has for each FLOW: a NUMBER (how many HEADERS it told),");
        Line x = single(0, RUNNING, 8);
        due("at first", x.squeezer(2, 0), 0);
        for (int m = 0; m < 20; m++) {
            x.send(2, m % 7 == 0);
            due("NUMBER", x.squeezer(2, 0), m + 1);
        }
        x.deliver(0);
        x.ack(2);
        x.nack(2);
        x.nack(3);
        x.twice(0);
        x.lose(0);
        x.forget(2, 0);
        due("answers and copies tell no HEADER", x.squeezer(2, 0), 20);
        due("another FLOW", x.squeezer(3, 0), 0);
    }

    private static void roundCountsWholeLetters() {
        Doc.terms("a ROUND (how many WHOLE letters it made, modulo 16),");
        Line x = single(0, FREE, 6);
        due("at first", x.squeezer(0, 1), 0);
        for (int m = 0; m < 35; m++) {
            int l = x.send(0, true);
            due("ROUND", x.squeezer(0, 1), (m + 1) % 16);
            due("number", x.look(l, 2), 2 * m);
            due("ROUND's bits", (x.octet(l, 2) & 3) << 2 | x.octet(l, 3) >> 6, (m + 1) % 16);
            x.send(0, false);
            due("a SHORT letter is none", x.squeezer(0, 1), (m + 1) % 16);
        }
        due("another FLOW", x.squeezer(1, 1), 0);
    }

    private static void stridesAtFirst() {
        Doc.terms("STRIDES of all FIELDS (0 .. 255, 1 at first),");
        Line x = new Line(0);
        for (int f = 0; f < 8; f++) {
            x.field(f % 2 == 0 ? RUNNING : CLOCKED, 8, 0, 1);
        }
        for (int flow = 0; flow < 8; flow++) {
            for (int f = 0; f < 8; f++) {
                due("at first", x.stride(flow, f, 255), 1);
                due("the highest", x.stride(flow, f, 0), 255);
                due("the lowest", x.stride(flow, f, flow), 0);
            }
        }
    }

    private static void referencesAtFirst() {
        Doc.terms("REFERENCES (HEADERS with their numbers; none at first),");
        Line x = single(3, FREE, 8);
        for (int flow = 0; flow < 8; flow++) {
            due("how many", x.squeezer(flow, 2), 0);
            due("the oldest", x.squeezer(flow, 3), -2);
            x.keep(flow, 3, flow);
            due("numbers", x.put(flow, 0, 0), -13);
        }
        x.send(5, false);
        x.send(5, false);
        x.keep(0, 3, 5);
        due("number", x.put(0, 0, 9), 0);
        due("number", x.put(0, 1, 9), 1);
        due("no more", x.put(0, 2, 9), -13);
    }

    private static void owesAtFirst() {
        Doc.terms("and whether it OWES a WHOLE letter (at first it does).");
        Line x = single(3, FREE, 8);
        for (int flow = 0; flow < 8; flow++) {
            due("owes", x.squeezer(flow, 4), 1);
        }
        for (int flow = 0; flow < 8; flow++) {
            x.send(flow, false);
            due("WHOLE", x.look(flow, 0), WHOLE);
            due("owes none", x.squeezer(flow, 4), 0);
        }
    }

    private static void stillGives() {
        Doc.terms("GIVEN: what a reference, being HEADER number r, gives for a FIELD of HEADER number m:"
                + " STILL: its own value.");
        Line x = single(7, STILL, 32);
        x.set(0, 4294967295L);
        for (int m = 0; m < 9; m++) {
            x.send(0, false);
            due("KIND", x.look(m, 0), m == 0 ? WHOLE : SHORT);
            due("bits", x.look(m, 4), m == 0 ? 26 + 32 : 26 + 8);
        }
        x.deliver(0);
        due("deliver", x.deliver(8), TAKEN);
        due("got", x.got(0), 4294967295L);
        x.set(0, 4294967294L);
        x.send(0, false);
        due("one off", x.look(9, 0), PART);
    }

    private static void tiedGives() {
        Doc.terms("TIED: the value of the FIELD that it is tied to, in HEADER m, and the DIFFERENCE.");
        Line x = single(0, FREE, 8);
        x.field(TIED, 8, 0, 200);
        for (int m = 0; m < 6; m++) {
            draft(x, 50 + m, (250 + m) % 256);
            x.send(0, false);
            due("KIND", x.look(m, 0), m == 0 ? WHOLE : SHORT);
            due("deliver", x.deliver(m), TAKEN);
            dueGot(x, 50 + m, (250 + m) % 256);
        }
        draft(x, 80, 255);
        x.send(0, false);
        due("as in HEADER r", x.look(6, 0), PART);
    }

    /** The opener has HEADER 0 alone, so that letter m hangs on one that is m before it. */
    private static void runningGives() {
        Doc.terms("RUNNING: its own value and (m - r) times the STRIDE.");
        for (int stride : new int[] {0, 1, 2, 255}) {
            for (int m = 1; m <= 8; m++) {
                Line x = single(7, RUNNING, 11);
                x.stride(0, 0, stride);
                for (int i = 0; i <= m; i++) {
                    x.set(0, 2000 + i * stride);
                    x.send(0, false);
                }
                due("n of STRIDE " + stride, x.prove(m, 0, 0), 0);
                due("deliver", x.deliver(0), TAKEN);
                due("deliver", x.deliver(m), TAKEN);
                due("got", x.got(0), (2000 + m * stride) % 2048);
                due("hung on", x.hung(2), 0);
            }
        }
    }

    private static void clockedGives() {
        Doc.terms("CLOCKED: its own value and (m - r) times the STRIDE times the SCALE.");
        for (int scale : new int[] {1, 7, 1000}) {
            for (int m = 1; m <= 8; m++) {
                Line x = new Line(7);
                x.field(CLOCKED, 20, 0, scale);
                x.stride(0, 0, 255);
                for (int i = 0; i <= m; i++) {
                    x.set(0, 1_000_000 + i * 255 * scale);
                    x.send(0, false);
                }
                due("n of SCALE " + scale, x.prove(m, 0, 0), 0);
                due("deliver", x.deliver(0), TAKEN);
                due("deliver", x.deliver(m), TAKEN);
                due("got", x.got(0), (1_000_000 + m * 255 * scale) % (1 << 20));
            }
        }
    }

    /** A FREE value stands in every letter, 0 too, though 0 is what each reference gives. */
    private static void freeGives() {
        Doc.terms("FREE: 0.");
        Line x = single(0, FREE, 9);
        x.field(STILL, 8, 0, 0);
        x.send(0, false);
        x.send(0, false);
        x.set(1, 1);
        x.send(0, false);
        dueBits(x, 1, beginning(SHORT, 0, 1) + "0001 000000000" + sum(0, 0), false);
        dueBits(x, 2, beginning(PART, 0, 2) + "0001 000000000 1 00000001" + sum(0, 1), false);
        for (int l = 0; l < 3; l++) {
            due("deliver", x.deliver(l), TAKEN);
            due("way", x.way(0), 2);
        }
    }

    private static long foundOneByOne(int width, long g, int n, long v) {
        long half = n == 0 ? 0 : 1L << (n - 1);
        for (long c = g - half; n > 0 && c <= g + half - 1; c++) {
            if (((c - v) & ((1L << n) - 1)) == 0) {
                return c & ((1L << width) - 1);
            }
        }
        return g;
    }

    private static void foundInSmallFields() {
        Doc.terms("FOUND by n bits from GIVEN g, for a value v: the one number of g - 2^(n-1) .. g + 2^(n-1) - 1"
                + " (modulo 2^WIDTH, n 1 or more) that has the n lowest bits of v;");
        for (int width = 1; width <= 4; width++) {
            for (int g = 0; g < 1 << width; g++) {
                for (int v = 0; v < 1 << width; v++) {
                    dueLeast(width, g, v);
                }
                dueFoundByAnyBits(width, g);
            }
        }
    }

    private static void dueLeast(int width, int g, int v) {
        Line x = single(0, RUNNING, width);
        x.set(0, g - 1);
        x.send(0, false);
        x.set(0, v);
        x.send(0, false);
        int n = 0;
        while (foundOneByOne(width, g, n, v) != v) {
            n++;
        }
        due("n of " + v + " from " + g + ", WIDTH " + width, x.prove(1, 0, 0), n);
        dueBits(x, 1, beginning(SHORT, 0, 1) + "0001" + bits(n, 6) + bits(v, n) + sum(v), false);
        x.deliver(0);
        due("deliver", x.deliver(1), TAKEN);
        due("got", x.got(0), v);
    }

    /** A letter that is bent to n bits which the SQUEEZER would not choose is found from g all the same. */
    private static void dueFoundByAnyBits(int width, int g) {
        for (int n = 0; n <= width; n++) {
            Line x = single(0, RUNNING, width);
            x.field(FREE, 9, 0, 0);
            x.set(0, g - 1);
            x.send(0, false);
            x.set(0, g);
            x.send(0, false);
            for (int low = 0; low < 1 << n; low++) {
                long v = foundOneByOne(width, g, n, low);
                become(x, 1, beginning(SHORT, 0, 1) + "0001" + bits(n, 6) + bits(low, n) + bits(5, 9) + sum(v, 5), false);
                x.deliver(0);
                due("deliver", x.deliver(1), TAKEN);
                due(n + " bits " + low + " from " + g + ", WIDTH " + width, x.got(0), v);
                x.forget(0, 1);
            }
        }
    }

    private static void foundAtTheEndsOfItsSpan() {
        Doc.terms("g - 2^(n-1) .. g + 2^(n-1) - 1");
        for (int width = 1; width <= 32; width++) {
            for (int n = 1; n <= width; n++) {
                long half = 1L << (n - 1);
                int more = Math.min(n + 1, width);
                for (long g : new long[] {0, (1L << width) - 1, 1L << (width - 1)}) {
                    dueN(width, g, g - half, n);
                    dueN(width, g, g - half - 1, n == width ? leastOf(half - 1) : more);
                    dueN(width, g, g + half - 1, n == 1 ? 0 : n);
                    dueN(width, g, g + half, more);
                }
            }
        }
    }

    /** The n of a value that is this much above what is given. */
    private static int leastOf(long above) {
        int n = 0;
        while (above != 0 && above > (1L << n) / 2 - 1) {
            n++;
        }
        return n;
    }

    private static void dueN(int width, long g, long v, int n) {
        Line x = single(0, RUNNING, width);
        x.set(0, g - 1);
        x.send(0, false);
        x.set(0, v);
        x.send(0, false);
        due("n of " + v + " from " + g + ", WIDTH " + width, x.prove(1, 0, 0), n);
        due("bits", x.look(1, 4), 26 + 6 + n + 8);
        x.deliver(0);
        due("deliver", x.deliver(1), TAKEN);
        due("got", x.got(0), v & ((1L << width) - 1));
    }

    private static void foundByNoBits() {
        Doc.terms("of n 0: g.");
        for (int width = 1; width <= 32; width++) {
            Line x = single(0, RUNNING, width);
            x.set(0, -1);
            x.send(0, false);
            x.set(0, 0);
            x.send(0, false);
            due("n", x.prove(1, 0, 0), 0);
            due("bits", x.look(1, 4), 26 + 6 + 8);
            x.deliver(0);
            due("deliver", x.deliver(1), TAKEN);
            due("got", x.got(0), 0);
            due("way", x.way(0), 1);
        }
    }

    /** 8 references; the one farthest below, then the one farthest above, then the newest alone. */
    private static void servesEachReference() {
        Doc.terms("n SERVES if v is found from what each reference gives");
        Line x = single(7, RUNNING, 16);
        x.stride(0, 0, 0);
        int[] values = {1000, 1040, 1010, 1011, 1012, 1013, 1014, 1020};
        for (int value : values) {
            x.set(0, value);
            x.send(0, false);
        }
        x.set(0, 1021);
        x.send(0, false);
        due("21 above the oldest", x.prove(8, 0, 0), 6);
        due("the oldest", x.prove(8, 0, 1), 0);
        due("references", x.prove(8, 0, 2), 8);
        x.send(0, false);
        due("19 below the oldest now", x.prove(9, 0, 0), 6);
        due("the oldest", x.prove(9, 0, 1), 1);
        x.send(0, false);
        due("11 above", x.prove(10, 0, 0), 5);
        due("the oldest", x.prove(10, 0, 1), 2);
        for (int l = 0; l <= 10; l++) {
            due("deliver", x.deliver(l), TAKEN);
            due("got", x.got(0), l < 8 ? values[l] : 1021);
        }
    }

    private static void servesAtWidth() {
        Doc.terms("(with n being WIDTH it always is).");
        for (int width = 1; width <= 32; width++) {
            Line x = single(7, RUNNING, width);
            x.stride(0, 0, 0);
            long far = 1L << (width - 1);
            for (int m = 0; m < 4; m++) {
                x.set(0, m % 2 == 0 ? 0 : far);
                x.send(0, false);
                due("n", x.prove(m, 0, 0), m == 0 ? -1 : width);
            }
            x.deliver(0);
            for (int m = 3; m > 0; m--) {
                due("deliver", x.deliver(m), m == 3 ? TAKEN : LATE);
                due("WIDTH " + width, x.got(0), far);
            }
        }
    }

    private static void numberOfATold() {
        Doc.terms("TO TELL a HEADER of a FLOW: its number is NUMBER, which is 1 more then.");
        Line x = single(0, FREE, 8);
        for (int m = 0; m < 5; m++) {
            int l = x.send(3, m == 3);
            due("number", x.look(l, 2), m);
            due("NUMBER", x.squeezer(3, 0), m + 1);
        }
        due("number of another FLOW", x.look(x.send(2, false), 2), 0);
    }

    private static void wholeIfWanted() {
        Doc.terms("The letter is WHOLE, if that is wanted,");
        Line x = single(3, FREE, 8);
        x.send(0, false);
        x.send(0, false);
        due("not wanted", x.look(1, 0), SHORT);
        x.send(0, true);
        due("wanted", x.look(2, 0), WHOLE);
        x.send(0, true);
        due("wanted again", x.look(3, 0), WHOLE);
        x.send(0, false);
        due("not wanted", x.look(4, 0), SHORT);
    }

    private static void wholeIfOwed() {
        Doc.terms("or owed,");
        Line x = single(3, RUNNING, 8);
        x.send(0, false);
        x.send(0, false);
        due("not owed", x.look(1, 0), SHORT);
        x.stride(0, 0, 1);
        due("references are there", x.squeezer(0, 2), 2);
        x.send(0, false);
        due("owed", x.look(2, 0), WHOLE);
        x.send(0, false);
        due("owed no more", x.look(3, 0), SHORT);
    }

    private static void wholeWithoutReferences() {
        Doc.terms("or there are no references;");
        Line x = single(3, FREE, 8);
        x.send(0, false);
        due("the first", x.look(0, 0), WHOLE);
        x.send(0, false);
        x.forget(0, 0);
        due("none", x.squeezer(0, 2), 0);
        x.send(0, false);
        due("without", x.look(2, 0), WHOLE);
    }

    private static void shortIfEachGives() {
        Doc.terms("else SHORT, if each reference gives just the value of each STILL and TIED FIELD;");
        Line x = new Line(1);
        x.field(STILL, 4, 0, 0);
        x.field(RUNNING, 8, 0, 0);
        x.field(TIED, 8, 1, 3);
        x.field(FREE, 8, 0, 0);
        long[][] headers = {{1, 10, 13, 5}, {1, 90, 93, 6}, {2, 91, 94, 7}, {2, 92, 95, 7}, {2, 93, 96, 7},
            {2, 200, 203, 7}, {2, 201, 203, 7}, {2, 255, 2, 0}};
        int[] kinds = {WHOLE, SHORT, PART, PART, SHORT, SHORT, PART, SHORT};
        for (int m = 0; m < headers.length; m++) {
            draft(x, headers[m]);
            x.send(0, false);
            due("KIND of " + m, x.look(m, 0), kinds[m]);
            due("deliver", x.deliver(m), TAKEN);
            dueGot(x, headers[m]);
        }
    }

    /** A plan without a STILL or TIED FIELD never needs a PART. */
    private static void elsePart() {
        Doc.terms("else PART.");
        Line x = new Line(0);
        x.field(STILL, 1, 0, 0);
        x.field(STILL, 1, 0, 0);
        for (int m = 0; m < 4; m++) {
            draft(x, m % 2, m / 2);
            x.send(0, false);
            due("KIND", x.look(m, 0), m == 0 ? WHOLE : PART);
        }
        Line y = new Line(0);
        y.field(RUNNING, 8, 0, 0);
        y.field(CLOCKED, 8, 0, 3);
        y.field(FREE, 8, 0, 0);
        for (int m = 0; m < 4; m++) {
            draft(y, m * 70, m * m * 30, m * 99);
            y.send(0, false);
            due("KIND", y.look(m, 0), m == 0 ? WHOLE : SHORT);
        }
    }

    private static void wholeBeginsARound() {
        Doc.terms("A WHOLE letter begins a new ROUND (1 more, modulo 16), the references all go, and none is owed.");
        Line x = single(7, RUNNING, 8);
        for (int m = 0; m < 8; m++) {
            x.send(0, false);
        }
        dueSqueezer(x, 0, 8, 1, 8, 0, 0);
        x.stride(0, 0, 2);
        dueSqueezer(x, 0, 8, 1, 8, 0, 1);
        x.send(0, false);
        dueSqueezer(x, 0, 9, 2, 1, 8, 0);
        for (int round = 3; round <= 33; round++) {
            x.send(0, true);
            dueSqueezer(x, 0, 7 + round, round % 16, 1, 6 + round, 0);
        }
        x.send(0, false);
        due("hung on the WHOLE one alone", x.prove(40, 0, 2), 1);
        due("hung on the WHOLE one alone", x.prove(40, 0, 3), 39);
    }

    private static void moreThanW() {
        Doc.terms("Then the HEADER is a reference; with more than W the oldest goes.");
        for (int w = 0; w < 8; w++) {
            Line x = single(w, RUNNING, 8);
            for (int m = 0; m < 20; m++) {
                x.send(0, false);
                int held = Math.min(m + 1, w + 1);
                dueSqueezer(x, 0, m + 1, 1, held, m + 1 - held, 0);
            }
            x.keep(0, 3, 0);
            for (int i = 0; i <= w; i++) {
                due("number", x.put(0, i, 0), 19 - w + i);
            }
            due("no more than W", x.put(0, w + 1, 0), -13);
            due("the last hung on W", x.prove(19, 0, 2), w + 1);
            due("the oldest of these", x.prove(19, 0, 3), 18 - w);
        }
    }

    private static void strideBecomes() {
        Doc.promise(4, "The STRIDE of a RUNNING or CLOCKED FIELD of a FLOW at the SQUEEZER becomes s; the FLOW owes a"
                + " WHOLE letter: what it was.");
        Line x = mixed(3);
        x.send(0, false);
        x.send(1, false);
        due("RUNNING", x.stride(0, 2, 255), 1);
        due("owes", x.squeezer(0, 4), 1);
        due("another FLOW owes none", x.squeezer(1, 4), 0);
        due("what it was", x.stride(0, 2, 0), 255);
        due("what it was", x.stride(0, 2, 9), 0);
        due("CLOCKED", x.stride(0, 3, 4), 1);
        x.send(0, false);
        x.deliver(2);
        due("in the letter", x.known(0, 2, true), 9);
        due("in the letter", x.known(0, 3, true), 4);
        due("owes none", x.squeezer(0, 4), 0);
        due("as it is already", x.stride(0, 3, 4), 4);
        due("owes again", x.squeezer(0, 4), 1);
        due("another FLOW's", x.stride(1, 2, 1), 1);
    }

    private static void strideRefusals() {
        Doc.promise(4, "-1: no such FLOW, FIELD, s not 0 .. 255.");
        Line x = mixed(3);
        x.send(0, false);
        for (int flow : OUT_OF_8) {
            due("FLOW " + flow, x.stride(flow, 2, 1), -1);
        }
        for (int field : new int[] {-1, 0, 1, 4, 5, 8, MIN, MAX}) {
            due("FIELD " + field, x.stride(0, field, 1), -1);
        }
        for (int s : new int[] {-1, 256, 257, MIN, MAX}) {
            due("s " + s, x.stride(0, 2, s), -1);
        }
        due("owes none", x.squeezer(0, 4), 0);
        due("s 0", x.stride(0, 2, 0), 1);
        due("s 255", x.stride(0, 2, 255), 0);
        due("FIELD 3", x.stride(7, 3, 255), 1);
    }

    private static void sendTellsTheDraft() {
        Doc.promise(5, "The DRAFT is TOLD (whole: a WHOLE letter is wanted): the LETTER's number.");
        Line x = single(0, STILL, 8);
        x.set(0, 77);
        due("send", x.send(0, false), 0);
        x.set(0, 78);
        x.nack(6);
        due("send", x.send(0, true), 2);
        due("the DRAFT stays", x.set(0, 79), 78);
        due("send", x.send(7, false), 3);
        x.deliver(0);
        due("as it was told", x.got(0), 77);
        x.deliver(2);
        due("as it was told", x.got(0), 78);
        due("WHOLE", x.look(2, 0), WHOLE);
    }

    private static void sendRefusals() {
        Doc.promise(5, "-1: no such FLOW; -2: there are 200 LETTERS; -3: there are no FIELDS.");
        Line x = new Line(0);
        due("no FIELDS", x.send(0, false), -3);
        due("no FIELDS", x.send(7, true), -3);
        x.field(FREE, 1, 0, 0);
        for (int flow : OUT_OF_8) {
            due("FLOW " + flow, x.send(flow, true), -1);
        }
        for (int l = 0; l < 200; l++) {
            due("send", x.send(l % 8, l % 3 == 0), l);
        }
        due("201st", x.send(0, false), -2);
        due("201st", x.send(7, true), -2);
        x.lose(0);
        due("a lost one is one of the 200", x.send(0, false), -2);
        due("count(1)", x.count(1), 200);
    }

    private static void squeezerTells() {
        Doc.promise(20, "Of a FLOW at the SQUEEZER: 0 NUMBER, 1 ROUND, 2 how many references, 3 the number of the oldest"
                + " one (-2 without), 4 whether it owes a WHOLE letter.");
        Line x = single(2, RUNNING, 8);
        dueSqueezer(x, 6, 0, 0, 0, -2, 1);
        for (int m = 0; m < 5; m++) {
            x.send(6, m == 1);
        }
        dueSqueezer(x, 6, 5, 2, 3, 2, 0);
        x.stride(6, 0, 4);
        dueSqueezer(x, 6, 5, 2, 3, 2, 1);
        x.forget(6, 0);
        dueSqueezer(x, 6, 5, 2, 0, -2, 1);
        dueSqueezer(x, 5, 0, 0, 0, -2, 1);
    }

    private static void squeezerRefusals() {
        Doc.promise(20, "-1: no such FLOW, what.");
        Line x = single(2, RUNNING, 8);
        x.send(0, false);
        for (int flow : OUT_OF_8) {
            for (int what = 0; what < 5; what++) {
                due("FLOW " + flow, x.squeezer(flow, what), -1);
            }
        }
        for (int what : new int[] {-1, 5, 6, MIN, MAX}) {
            due("what " + what, x.squeezer(0, what), -1);
        }
    }

    private static void forgetReferences() {
        Doc.promise(21, "or the FLOW owes a WHOLE letter, and has no references (end 0):");
        Line x = single(7, RUNNING, 8);
        due("none to go", x.forget(0, 0), 0);
        x.stride(0, 0, 77);
        x.send(0, false);
        x.send(0, false);
        x.send(1, false);
        x.deliver(0);
        due("references go", x.forget(0, 0), 1);
        dueSqueezer(x, 0, 2, 1, 0, -2, 1);
        dueSqueezer(x, 1, 1, 1, 1, 0, 0);
        due("the CONTEXT stays", x.context(0, 0), 1);
        due("none to go", x.forget(0, 0), 0);
        x.send(0, false);
        due("WHOLE", x.look(3, 0), WHOLE);
        dueSqueezer(x, 0, 3, 2, 1, 2, 0);
        due("the STRIDE stays", x.stride(0, 0, 1), 77);
    }
}
