/** The sentences about the bits of LETTERS and about the LINE: a test for each. */
final class LetterSentences extends Scene {
    private static final int[] NO_LETTER_OF_3 = {-1, 3, 199, 200, MIN, MAX};

    private LetterSentences() {
    }

    static void all() {
        highestBitFirst();
        filledToBytes();
        beginnings();
        numberTurns();
        wholeBits();
        partBits();
        shortBits();
        answerBits();
        checkTurns();
        sumTurns();
        twoHundred();
        underWayUntilLost();
        deliveredAgain();
        loseAnswers();
        loseRefusals();
        twiceCopies();
        twiceRefusals();
        bendTurns();
        bendRefusals();
        octetTells();
        octetRefusals();
        lookAsMade();
        lookLengths();
        lookOutcome();
        lookLost();
        lookRefusals();
        proveN();
        proveOldestMiss();
        proveReferences();
        proveRefusals();
        spentCounts();
        spentBits();
        spentBeyond();
        spentRefusals();
        counts();
    }

    /** A plan of each KIND and letters 0 WHOLE, 1 SHORT, 2 PART of FLOW 6. */
    private static Line threeKinds() {
        Line x = mixed(3);
        x.stride(6, 3, 254);
        draft(x, 1, 6, 2, 8, 16);
        x.send(6, false);
        draft(x, 1, 6, 3, 2548, 1);
        x.send(6, false);
        draft(x, 128, 133, 4, 5088, 8);
        x.send(6, false);
        return x;
    }

    private static void highestBitFirst() {
        Doc.terms("LETTERS are rows of bits, the highest one of each number first,");
        Line x = threeKinds();
        dueBits(x, 0, "000 110 0000000000000000 0001 00000001 00000110 0000000000000010 00000001 00000000000000001000"
                + " 11111110 10000", true);
        dueBits(x, 1, "010 110 0000000000000001 0001 000000 000000 00001" + sum(1, 6, 3, 2548, 1), false);
        dueBits(x, 2, "001 110 0000000000000010 0001 1 10000000 0 0 0 01000" + sum(128, 133, 4, 5088, 8), false);
    }

    /** One FREE FIELD of WIDTH 1 to 32: each number of fill bits from 0 to 7 comes up four times. */
    private static void filledToBytes() {
        Doc.terms("filled with 0 bits to whole bytes.");
        for (int width = 1; width <= 32; width++) {
            Line x = single(0, FREE, width);
            x.set(0, -1);
            x.send(0, false);
            x.send(0, false);
            int whole = 26 + width;
            int fill = (8 - whole % 8) % 8;
            due("bytes of WHOLE", x.look(0, 3), (whole + fill) / 8 + 1);
            due("bytes of SHORT", x.look(1, 3), (whole + fill) / 8 + 1);
            int last = x.octet(0, x.look(0, 3) - 2);
            due("last byte before CHECK", last & ((1 << fill) - 1), 0);
            due("last bit of the value", last >> fill & 1, 1);
            due("last byte of SHORT", x.octet(1, x.look(1, 3) - 1) & ((1 << fill) - 1), 0);
            due("deliver", x.deliver(0), TAKEN);
            due("deliver", x.deliver(1), TAKEN);
        }
    }

    private static void beginnings() {
        Doc.terms("All begin with KIND (3 bits: 0 WHOLE, 1 PART, 2 SHORT, 3 ACK, 4 NACK, 5 STALE), FLOW (3), NUMBER (16;");
        for (int flow = 0; flow < 8; flow++) {
            Line x = single(0, STILL, 8);
            due("STALE", x.nack(flow), 0);
            x.send(flow, false);
            x.set(0, 9);
            x.send(flow, false);
            x.send(flow, false);
            x.deliver(1);
            due("ACK", x.ack(flow), 4);
            due("NACK", x.nack(flow), 5);
            int[] kinds = {STALE, WHOLE, PART, SHORT, ACK, NACK};
            int[] numbers = {0, 0, 1, 2, 0, 1};
            for (int l = 0; l < 6; l++) {
                int[] first = bytesOf(beginning(kinds[l], flow, numbers[l]), false);
                due("byte 0", x.octet(l, 0), first[0]);
                due("byte 1", x.octet(l, 1), first[1]);
                due("byte 2", x.octet(l, 2) & 252, first[2]);
            }
        }
        Line y = single(0, FREE, 8);
        for (int m = 0; m < 200; m++) {
            y.send(0, false);
        }
        due("number 199", y.octet(199, 1) << 6 | y.octet(199, 2) >> 2, 199);
    }

    /** No SQUEEZER comes to 65536 in 200 LETTERS; a CONTEXT whose letter was bent to 65535 does. */
    private static void numberTurns() {
        Doc.terms("modulo 65536).");
        int[] numbers = {65534, 65535};
        for (int number : numbers) {
            Line x = single(0, FREE, 6);
            x.send(2, false);
            become(x, 0, beginning(WHOLE, 2, number) + "0001 000000", true);
            due("deliver", x.deliver(0), TAKEN);
            due("context", x.context(2, 1), number);
            due("ack", x.ack(2), 1);
            dueBits(x, 1, beginning(ACK, 2, number), true);
            due("nack", x.nack(2), 2);
            dueBits(x, 2, beginning(NACK, 2, (number + 1) % 65536), true);
            due("number", x.look(2, 2), (number + 1) % 65536);
        }
    }

    private static void wholeBits() {
        Doc.terms("WHOLE: ROUND (4), then for each FIELD its value (WIDTH bits) and, of RUNNING and CLOCKED, its STRIDE (8);"
                + " filled to bytes; one byte more: CHECK.");
        int[] strideBits = {0, 0, 8, 8, 0};
        for (int kind = STILL; kind <= FREE; kind++) {
            for (int width : new int[] {1, 2, 6, 7, 32}) {
                Line x = single(0, FREE, 1);
                x.field(kind, width, 0, 1);
                x.stride(3, 1, 255);
                draft(x, 1, -1);
                x.send(3, false);
                dueBits(x, 0, beginning(WHOLE, 3, 0) + "0001 1" + bits(-1, width) + bits(-1, strideBits[kind]), true);
            }
        }
        Line y = new Line(0);
        for (int f = 0; f < 8; f++) {
            y.field(RUNNING, 32, 0, 0);
        }
        y.send(0, false);
        due("the longest", y.look(0, 3), 45);
        due("the longest", y.look(0, 4), 346);
    }

    /** References 10 and 12 of HEADERS 0 and 1; STILL 1 and 2, so that no letter is SHORT. */
    private static void partBits() {
        Doc.terms("PART: ROUND (4); for each FIELD, but FREE, a bit: 0, if all references give the value, else 1 and the"
                + " value; of FREE the value alone; then SUM (8).");
        Line x = new Line(1);
        x.field(STILL, 2, 0, 0);
        x.field(RUNNING, 6, 0, 0);
        x.field(CLOCKED, 6, 0, 2);
        x.field(TIED, 6, 1, 1);
        x.field(FREE, 3, 0, 0);
        long[][] headers = {{1, 10, 10, 11, 0}, {2, 11, 13, 12, 7}, {1, 12, 14, 13, 0}, {1, 13, 16, 15, 4}};
        String[] told = {"", "1 10 0 1 001101 0 111", "1 01 0 1 001110 0 000", "1 01 0 1 010000 1 001111 100"};
        for (int m = 0; m < 4; m++) {
            draft(x, headers[m]);
            x.send(4, false);
            if (m > 0) {
                dueBits(x, m, beginning(PART, 4, m) + "0001" + told[m] + sum(headers[m]), false);
            }
            due("deliver", x.deliver(m), TAKEN);
            dueGot(x, headers[m]);
        }
    }

    private static void shortBits() {
        Doc.terms("SHORT: ROUND (4); for each RUNNING and CLOCKED FIELD the least n that SERVES (6 bits) and the n lowest"
                + " bits of the value; of FREE the value; of others nothing; then SUM (8).");
        Line x = new Line(0);
        x.field(STILL, 32, 0, 0);
        x.field(RUNNING, 32, 0, 0);
        x.field(TIED, 32, 1, 1);
        x.field(CLOCKED, 32, 0, 1000);
        x.field(FREE, 3, 0, 0);
        draft(x, 9, 4294967295L, 0, 5, 5);
        x.send(1, false);
        draft(x, 9, 2, 3, 1001, 6);
        x.send(1, false);
        dueBits(x, 1, beginning(SHORT, 1, 1) + "0001 000011 010 000011 001 110" + sum(9, 2, 3, 1001, 6), false);
        draft(x, 9, 2147483651L, 2147483652L, 2001, 0);
        x.send(1, false);
        dueBits(x, 2, beginning(SHORT, 1, 2) + "0001 100000 10000000000000000000000000000011 000000 000"
                + sum(9, 2147483651L, 2147483652L, 2001, 0), false);
        for (int l = 0; l < 3; l++) {
            due("deliver", x.deliver(l), TAKEN);
        }
    }

    private static void answerBits() {
        Doc.terms("ACK, NACK, STALE: filled to bytes, and CHECK.");
        Line x = single(0, FREE, 8);
        x.nack(7);
        x.send(7, false);
        x.deliver(1);
        x.ack(7);
        x.nack(7);
        dueBits(x, 0, "101 111 0000000000000000", true);
        dueBits(x, 2, "011 111 0000000000000000", true);
        dueBits(x, 3, "100 111 0000000000000001", true);
        due("deliver", x.deliver(2), 6);
        due("deliver", x.deliver(3), 6);
        due("deliver", x.deliver(0), 7);
    }

    /** 30 bits behind ROUND make whole bytes, so that the sum of the bytes can be any. */
    private static void checkTurns() {
        Doc.terms("CHECK: 255 less the sum, modulo 256, of all bytes before it.");
        int[][] cases = {{0, 0, 0, 191}, {190, 0, 0, 1}, {191, 0, 0, 0}, {192, 0, 0, 255}, {193, 0, 0, 254},
            {255, 192, 0, 0}, {255, 193, 0, 255}, {255, 255, 193, 0}, {255, 255, 194, 255}};
        for (int[] row : cases) {
            Line x = single(0, FREE, 30);
            x.set(0, (row[0] << 16) + (row[1] << 8) + row[2]);
            x.send(0, false);
            due("CHECK behind a sum of " + (64 + row[0] + row[1] + row[2]), x.octet(0, 7), row[3]);
            due("deliver", x.deliver(0), TAKEN);
        }
    }

    private static void sumTurns() {
        Doc.terms("SUM of a HEADER: 17, then for each FIELD 31 times what it is so far and the value; modulo 256.");
        long[] values = {0, 1, 239, 240, 241, 242, 255, 256, 65535, 4294967295L};
        int[] sums = {15, 16, 254, 255, 0, 1, 14, 15, 14, 14};
        for (int i = 0; i < values.length; i++) {
            Line x = single(0, FREE, 32);
            x.set(0, values[i]);
            x.send(0, false);
            x.send(0, false);
            int tail = x.octet(1, 7) << 8 | x.octet(1, 8);
            due("SUM of " + values[i], tail >> 6 & 255, sums[i]);
        }
        Line y = new Line(0);
        for (int f = 0; f < 8; f++) {
            y.field(FREE, 32, 0, 0);
            y.set(f, 4294967295L - f);
        }
        y.send(0, false);
        y.send(0, false);
        dueBits(y, 1, beginning(SHORT, 0, 1) + "0001" + bits(-1, 32) + bits(-2, 32) + bits(-3, 32) + bits(-4, 32)
                + bits(-5, 32) + bits(-6, 32) + bits(-7, 32) + bits(-8, 32) + sum(4294967295L, 4294967294L, 4294967293L,
                4294967292L, 4294967291L, 4294967290L, 4294967289L, 4294967288L), false);
    }

    private static void twoHundred() {
        Doc.terms("THE LINE has LETTERS 0 .. 199, numbered as they are made;");
        Line x = single(0, FREE, 8);
        x.send(0, false);
        x.deliver(0);
        for (int l = 1; l < 200; l++) {
            int made = l % 4 == 0 ? x.send(1, false) : l % 4 == 1 ? x.ack(0) : l % 4 == 2 ? x.nack(2) : x.twice(l - 1);
            due("LETTER", made, l);
        }
        due("count(1)", x.count(1), 200);
        due("send", x.send(1, false), -2);
        due("ack", x.ack(0), -2);
        due("NACK", x.nack(0), -2);
        due("STALE", x.nack(2), -2);
        due("twice", x.twice(0), -2);
        due("count(1)", x.count(1), 200);
        due("LETTER 199", x.look(199, 3), 4);
        due("LETTER 200", x.look(200, 3), -1);
        x.lose(199);
        due("a lost one keeps its place", x.nack(2), -2);
        due("deliver", x.deliver(198), 7);
    }

    private static void underWayUntilLost() {
        Doc.terms("each is UNDER WAY until it is lost;");
        Line x = single(0, FREE, 8);
        x.send(0, false);
        x.deliver(0);
        due("under way behind a delivery", x.twice(0), 1);
        x.lose(0);
        due("deliver", x.deliver(0), -1);
        due("lose", x.lose(0), -1);
        due("twice", x.twice(0), -1);
        due("bend", x.bend(0, 0, 1), -1);
        due("a copy is another LETTER", x.deliver(1), LATE);
    }

    private static void deliveredAgain() {
        Doc.terms("it may be delivered again and again.");
        Line x = single(0, FREE, 8);
        x.send(0, false);
        int stale = x.nack(0);
        for (int i = 0; i < 100; i++) {
            due("deliver", x.deliver(0), i == 0 ? TAKEN : LATE);
            due("deliver", x.deliver(stale), i == 0 ? 6 : 7);
        }
        x.forget(0, 1);
        due("deliver", x.deliver(0), TAKEN);
        due("GOT", x.hung(3), 2);
    }

    private static void loseAnswers() {
        Doc.promise(9, "LETTER l is lost: 0.");
        Line x = single(0, FREE, 8);
        x.send(0, false);
        x.send(0, false);
        x.nack(0);
        for (int l = 0; l < 3; l++) {
            due("lose", x.lose(l), 0);
            due("look", x.look(l, 6), 1);
            due("count(3)", x.count(3), l + 1);
        }
        due("they are LETTERS still", x.count(1), 3);
    }

    private static void loseRefusals() {
        Doc.promise(9, "-1 as deliver().");
        Line x = threeKinds();
        for (int l : NO_LETTER_OF_3) {
            due("LETTER " + l, x.lose(l), -1);
        }
        x.lose(2);
        due("lost already", x.lose(2), -1);
        due("count(3)", x.count(3), 1);
    }

    private static void twiceCopies() {
        Doc.promise(10, "Another LETTER with the bytes of LETTER l (and its KIND, FLOW, number as it was made): its number.");
        Line x = threeKinds();
        for (int l = 0; l < 3; l++) {
            x.bend(l, 0, 255);
            x.bend(l, 1, 255);
            x.deliver(l);
            due("twice", x.twice(l), 3 + l);
            for (int what = 0; what < 5; what++) {
                due("look " + what, x.look(3 + l, what), x.look(l, what));
            }
            due("KIND as made", x.look(3 + l, 0), l == 0 ? WHOLE : l == 1 ? SHORT : PART);
            due("FLOW as made", x.look(3 + l, 1), 6);
            due("number as made", x.look(3 + l, 2), l);
            due("no delivery", x.look(3 + l, 5), -1);
            for (int k = 0; k < x.look(l, 3); k++) {
                due("byte", x.octet(3 + l, k), x.octet(l, k));
            }
        }
        x.bend(3, 1, 255);
        due("its bytes are its own", x.octet(0, 1), 255);
        due("a copy of a copy", x.twice(4), 6);
        due("KIND as made", x.look(6, 0), SHORT);
    }

    private static void twiceRefusals() {
        Doc.promise(10, "-1 as deliver(); -2: there are 200.");
        Line x = threeKinds();
        for (int l : NO_LETTER_OF_3) {
            due("LETTER " + l, x.twice(l), -1);
        }
        x.lose(1);
        due("lost", x.twice(1), -1);
        due("count(1)", x.count(1), 3);
        for (int l = 3; l < 200; l++) {
            due("twice", x.twice(0), l);
        }
        due("201st", x.twice(0), -2);
        due("201st of a copy", x.twice(199), -2);
        due("count(1)", x.count(1), 200);
    }

    private static void bendTurns() {
        Doc.promise(11, "Byte k of LETTER l (from 0 on) has the bits of a mask (1 .. 255) turned: what it is.");
        Line x = threeKinds();
        int bytes = x.look(0, 3);
        for (int k = 0; k < bytes; k++) {
            int was = x.octet(0, k);
            due("mask 255", x.bend(0, k, 255), 255 - was);
            due("mask 1", x.bend(0, k, 1), (255 - was) ^ 1);
            due("mask 128", x.bend(0, k, 128), (255 - was) ^ 129);
            due("it stays so", x.octet(0, k), (255 - was) ^ 129);
            due("turned back", x.bend(0, k, 126), was);
        }
        due("mended", x.deliver(0), TAKEN);
    }

    private static void bendRefusals() {
        Doc.promise(11, "-1 as deliver(), no such byte, another mask.");
        Line x = threeKinds();
        int bytes = x.look(1, 3);
        int was = x.octet(1, 0);
        for (int l : NO_LETTER_OF_3) {
            due("LETTER " + l, x.bend(l, 0, 1), -1);
        }
        for (int k : new int[] {-1, bytes, bytes + 1, 60, MIN, MAX}) {
            due("byte " + k, x.bend(1, k, 1), -1);
        }
        for (int mask : new int[] {0, -1, 256, 257, 511, MIN, MAX}) {
            due("mask " + mask, x.bend(1, 0, mask), -1);
        }
        due("not bent", x.octet(1, 0), was);
        x.lose(1);
        due("lost", x.bend(1, 0, 1), -1);
        due("not bent", x.octet(1, 0), was);
    }

    private static void octetTells() {
        Doc.promise(12, "Byte k of LETTER l.");
        Line x = single(0, FREE, 6);
        x.set(0, 63);
        x.send(7, false);
        int[] bytes = {28, 0, 0, 127, 255 - 155};
        for (int k = 0; k < 5; k++) {
            due("octet", x.octet(0, k), bytes[k]);
        }
    }

    private static void octetRefusals() {
        Doc.promise(12, "-1: there is none (lost ones have theirs).");
        Line x = threeKinds();
        int bytes = x.look(2, 3);
        for (int l : NO_LETTER_OF_3) {
            due("LETTER " + l, x.octet(l, 0), -1);
        }
        for (int k : new int[] {-1, bytes, bytes + 1, 60, MIN, MAX}) {
            due("byte " + k, x.octet(2, k), -1);
        }
        int first = x.octet(2, 0);
        int last = x.octet(2, bytes - 1);
        x.lose(2);
        due("a lost one's first", x.octet(2, 0), first);
        due("a lost one's last", x.octet(2, bytes - 1), last);
        due("a lost one's next", x.octet(2, bytes), -1);
    }

    private static void lookAsMade() {
        Doc.promise(13, "Of LETTER l: 0 its KIND, 1 its FLOW, 2 its number (these three as it was made, the number modulo"
                + " 65536),");
        Line x = threeKinds();
        int[] kinds = {WHOLE, SHORT, PART};
        for (int l = 0; l < 3; l++) {
            for (int turn = 0; turn < 2; turn++) {
                due("KIND", x.look(l, 0), kinds[l]);
                due("FLOW", x.look(l, 1), 6);
                due("number", x.look(l, 2), l);
                x.bend(l, 0, 255);
                x.bend(l, 1, 255);
                x.bend(l, 2, 255);
            }
        }
        Line y = single(0, FREE, 6);
        y.send(0, false);
        become(y, 0, beginning(WHOLE, 5, 65535) + "0001 000000", true);
        y.deliver(0);
        due("number as made", y.look(0, 2), 0);
        due("ACK", y.look(y.ack(5), 2), 65535);
        due("NACK", y.look(y.nack(5), 2), 0);
    }

    private static void lookLengths() {
        Doc.promise(13, "3 how many bytes, 4 how many bits ahead of those that fill it and CHECK,");
        for (int width = 5; width <= 7; width++) {
            Line x = single(0, STILL, width);
            x.send(0, false);
            x.send(0, false);
            x.set(0, 1);
            x.send(0, false);
            x.nack(0);
            due("bits of WHOLE", x.look(0, 4), 26 + width);
            due("bytes of WHOLE", x.look(0, 3), width < 7 ? 5 : 6);
            due("bits of SHORT", x.look(1, 4), 34);
            due("bytes of SHORT", x.look(1, 3), 5);
            due("bits of PART", x.look(2, 4), 35 + width);
            due("bytes of PART", x.look(2, 3), width < 6 ? 5 : 6);
            due("bits of STALE", x.look(3, 4), 22);
            due("bytes of STALE", x.look(3, 3), 4);
        }
    }

    private static void lookOutcome() {
        Doc.promise(13, "5 the OUTCOME of its latest delivery (-1 without),");
        Line x = threeKinds();
        due("without", x.look(1, 5), -1);
        due("NONE", x.deliver(1), NONE);
        due("of the latest", x.look(1, 5), NONE);
        due("of another", x.look(0, 5), -1);
        x.deliver(0);
        due("TAKEN", x.deliver(1), TAKEN);
        due("of the latest", x.look(1, 5), TAKEN);
        due("LATE", x.deliver(1), LATE);
        due("of the latest", x.look(1, 5), LATE);
        x.bend(1, 0, 224);
        due("BROKEN", x.deliver(1), BROKEN);
        due("of the latest", x.look(1, 5), BROKEN);
        x.lose(1);
        due("refused", x.deliver(1), -1);
        due("of the latest", x.look(1, 5), BROKEN);
        int nack = x.nack(6);
        x.deliver(nack);
        due("of a NACK", x.look(nack, 5), 6);
        x.deliver(nack);
        due("of a NACK", x.look(nack, 5), 7);
    }

    private static void lookLost() {
        Doc.promise(13, "6 whether it is lost.");
        Line x = threeKinds();
        x.lose(1);
        due("LETTER 0", x.look(0, 6), 0);
        due("LETTER 1", x.look(1, 6), 1);
        due("LETTER 2", x.look(2, 6), 0);
    }

    private static void lookRefusals() {
        Doc.promise(13, "-1: there is none, or another what.");
        Line x = threeKinds();
        for (int l : NO_LETTER_OF_3) {
            for (int what = 0; what < 7; what++) {
                due("LETTER " + l, x.look(l, what), -1);
            }
        }
        for (int what : new int[] {-1, 7, 8, MIN, MAX}) {
            due("what " + what, x.look(0, what), -1);
        }
    }

    private static void proveN() {
        Doc.promise(14, "How n was found for a RUNNING or CLOCKED FIELD of a SHORT letter (as it was made): what = 0: n;");
        Line x = new Line(0);
        x.field(RUNNING, 32, 0, 0);
        x.field(CLOCKED, 1, 0, 1);
        x.send(0, false);
        draft(x, 2147483649L, 0);
        x.send(0, false);
        draft(x, 2147483650L, 1);
        x.send(0, false);
        due("n of WIDTH 32", x.prove(1, 0, 0), 32);
        due("n of WIDTH 1", x.prove(1, 1, 0), 1);
        due("n 0", x.prove(2, 0, 0), 0);
        due("n 0", x.prove(2, 1, 0), 0);
        x.bend(1, 3, 255);
        x.deliver(1);
        x.lose(1);
        due("as it was made", x.prove(1, 0, 0), 32);
    }

    private static void proveOldestMiss() {
        Doc.promise(14, "1: the number of its oldest reference from which n - 1 bits don't find the value (-2: n is 0);");
        Line x = single(3, RUNNING, 16);
        x.stride(0, 0, 0);
        int[] values = {100, 103, 98, 103, 100, 99, 99, 99, 99, 99};
        int[] lengths = {-1, 3, 4, 4, 3, 3, 3, 3, 1, 0};
        int[] misses = {-1, 0, 1, 2, 1, 1, 3, 3, 4, -2};
        for (int m = 0; m < values.length; m++) {
            x.set(0, values[m]);
            x.send(0, false);
            due("n of " + m, x.prove(m, 0, 0), lengths[m]);
            due("oldest of " + m, x.prove(m, 0, 1), misses[m]);
        }
    }

    private static void proveReferences() {
        Doc.promise(14, "2: how many references it hung on; 3: the number of the oldest of these.");
        Line x = single(3, RUNNING, 8);
        for (int m = 0; m < 8; m++) {
            x.send(0, false);
            due("how many", x.prove(m, 0, 2), m == 0 ? -1 : Math.min(m, 4));
            due("oldest", x.prove(m, 0, 3), m == 0 ? -1 : Math.max(0, m - 4));
        }
        x.deliver(4);
        for (int l = 0; l <= 6; l++) {
            x.deliver(l);
        }
        x.deliver(x.ack(0));
        x.send(0, false);
        due("behind an ACK of 6", x.prove(9, 0, 2), 2);
        due("behind an ACK of 6", x.prove(9, 0, 3), 6);
        x.send(0, true);
        x.send(0, false);
        due("behind a WHOLE one", x.prove(11, 0, 2), 1);
        due("behind a WHOLE one", x.prove(11, 0, 3), 9);
        due("earlier ones keep theirs", x.prove(7, 0, 2), 4);
        due("earlier ones keep theirs", x.prove(7, 0, 3), 3);
    }

    private static void proveRefusals() {
        Doc.promise(14, "-1: no such LETTER (a copy is none), FIELD, what; it is no SHORT one.");
        Line x = threeKinds();
        due("a SHORT one", x.prove(1, 2, 0), 0);
        due("a SHORT one", x.prove(1, 3, 0), 0);
        for (int l : NO_LETTER_OF_3) {
            due("LETTER " + l, x.prove(l, 2, 0), -1);
        }
        for (int field : new int[] {-1, 0, 1, 4, 5, 8, MIN, MAX}) {
            for (int what = 0; what < 4; what++) {
                due("FIELD " + field, x.prove(1, field, what), -1);
            }
        }
        for (int what : new int[] {-1, 4, 5, MIN, MAX}) {
            due("what " + what, x.prove(1, 2, what), -1);
        }
        due("WHOLE", x.prove(0, 2, 0), -1);
        due("PART", x.prove(2, 2, 0), -1);
        due("a copy", x.prove(x.twice(1), 2, 0), -1);
        due("STALE", x.prove(x.nack(0), 2, 0), -1);
        x.deliver(0);
        due("ACK", x.prove(x.ack(6), 2, 0), -1);
        due("NACK", x.prove(x.nack(6), 2, 0), -1);
        x.bend(0, 0, 64);
        due("WHOLE as it was made", x.prove(0, 2, 0), -1);
    }

    /** Letters of each KIND for FLOWS 1 and 2, copies and lost ones among them. */
    private static Line spendthrift() {
        Line x = mixed(3);
        for (int flow = 1; flow <= 2; flow++) {
            x.nack(flow);
            draft(x, 1, 6, 0, 0, 0);
            int first = x.send(flow, false);
            x.send(flow, false);
            x.set(0, 2);
            x.send(flow, false);
            x.deliver(first);
            x.ack(flow);
            x.nack(flow);
        }
        for (int l = 0; l < 6; l++) {
            x.twice(l);
            x.lose(l);
        }
        x.send(2, true);
        return x;
    }

    private static void spentCounts() {
        Doc.promise(22, "All LETTERS of a KIND (0 .. 5) that were made for a FLOW, copies left out: 0 how many,");
        Line x = spendthrift();
        for (int kind = WHOLE; kind <= STALE; kind++) {
            due("KIND " + kind + " of FLOW 1", x.spent(1, kind, 0), 1);
            due("KIND " + kind + " of FLOW 2", x.spent(2, kind, 0), kind == WHOLE ? 2 : 1);
            due("KIND " + kind + " of FLOW 0", x.spent(0, kind, 0), 0);
            due("KIND " + kind + " of FLOW 7", x.spent(7, kind, 0), 0);
        }
        x.bend(8, 0, 252);
        due("as it was made", x.spent(2, SHORT, 0), 1);
        fill(x);
        due("STALE of FLOW 7", x.spent(7, STALE, 0), 200 - 19);
    }

    private static void spentBits() {
        Doc.promise(22, "1 how many bits (as look() tells them),");
        Line x = spendthrift();
        int[] bits = {26 + 8 + 8 + 24 + 28 + 5, 26 + 1 + 8 + 1 + 8 + 1 + 16 + 1 + 20 + 5 + 8,
            26 + 6 + 1 + 6 + 5 + 5 + 8, 22, 22, 22};
        int[] letters = {1, 3, 2, 4, 5, 0};
        for (int kind = WHOLE; kind <= STALE; kind++) {
            due("look", x.look(letters[kind], 4), bits[kind]);
            due("KIND " + kind + " of FLOW 1", x.spent(1, kind, 1), bits[kind]);
            due("KIND " + kind + " of FLOW 2", x.spent(2, kind, 1), kind == WHOLE ? 2 * bits[kind] : bits[kind]);
            due("KIND " + kind + " of FLOW 0", x.spent(0, kind, 1), 0);
        }
    }

    private static void spentBeyond() {
        Doc.promise(22, "2 how many bits WHOLE letters would have had beyond these (of KINDS 0 to 2; of others 0).");
        Line x = spendthrift();
        int whole = 99;
        for (int kind = WHOLE; kind <= STALE; kind++) {
            long made = x.spent(2, kind, 0);
            long due = kind <= SHORT ? made * whole - x.spent(2, kind, 1) : 0;
            due("KIND " + kind, x.spent(2, kind, 2), due);
        }
        due("WHOLE", x.spent(2, WHOLE, 2), 0);
        due("SHORT", x.spent(2, SHORT, 2), 99 - 57);
        due("ACK", x.spent(2, ACK, 2), 0);
        due("none made", x.spent(3, SHORT, 2), 0);
        Line y = single(0, STILL, 7);
        y.send(0, false);
        y.send(0, false);
        y.set(0, 5);
        y.send(0, false);
        due("a SHORT one that is longer", y.spent(0, SHORT, 2), -1);
        due("a PART one that is longer", y.spent(0, PART, 2), -9);
    }

    private static void spentRefusals() {
        Doc.promise(22, " -1.");
        Line x = spendthrift();
        for (int flow : OUT_OF_8) {
            due("FLOW " + flow, x.spent(flow, 0, 0), -1);
        }
        for (int kind : new int[] {-1, 6, 7, MIN, MAX}) {
            due("KIND " + kind, x.spent(1, kind, 0), -1);
        }
        for (int what : new int[] {-1, 3, 4, MIN, MAX}) {
            due("what " + what, x.spent(1, 0, what), -1);
            due("what " + what, x.spent(1, 5, what), -1);
        }
    }

    private static void counts() {
        Doc.promise(29, "0 FIELDS, 1 LETTERS, 2 W, 3 LETTERS that are lost; -1 for others.");
        Line x = mixed(6);
        int[] none = {5, 0, 7, 0};
        for (int what = 0; what < 4; what++) {
            due("what " + what, x.count(what), none[what]);
        }
        for (int l = 0; l < 200; l++) {
            x.send(l % 8, false);
        }
        for (int l = 0; l < 200; l++) {
            x.lose(l);
        }
        int[] all = {5, 200, 7, 200};
        for (int what = 0; what < 4; what++) {
            due("what " + what, x.count(what), all[what]);
        }
        for (int what : new int[] {-1, 4, 5, MIN, MAX}) {
            due("what " + what, x.count(what), -1);
        }
    }
}
