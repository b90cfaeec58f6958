/** The sentences about the OPENER and what a delivered letter does there: a test for each. */
final class OpenerSentences extends Scene {
    private OpenerSentences() {
    }

    static void all() {
        noContextAtFirst();
        contextIsTheLastTaken();
        brokenComesFirst();
        noneComesBeforeTheRest();
        lateAndFarComeBeforeUnlike();
        noneWithoutContext();
        noneInAnotherRound();
        sameRoundSixteenLater();
        lateUpToTheContextsNumber();
        farBeyondW();
        unlikeBySum();
        comesAsGiven();
        comesFoundOrStanding();
        takenIsGot();
        takenKeepsRoundAndStrides();
        otherOutcomesChangeNothing();
        ackMakes();
        ackRefusals();
        nackMakes();
        staleMakes();
        nackRefusals();
        deliverAnswersTheOutcome();
        deliverRefusals();
        gotTells();
        gotRefusals();
        wayTells();
        wayRefusals();
        hungTells();
        hungRefusals();
        contextTells();
        contextRefusals();
        knownTells();
        knownRefusals();
        forgetContext();
        forgetAnswersWhetherAnythingWent();
        forgetRefusals();
    }

    private static void noContextAtFirst() {
        Doc.terms("THE OPENER has for each FLOW a CONTEXT or none (at first):");
        Line x = single(0, FREE, 8);
        for (int flow = 0; flow < 8; flow++) {
            dueContext(x, flow, 0, -2, -2);
            due("known", x.known(flow, 0, false), -2);
            due("ack", x.ack(flow), -3);
            due("keep", x.keep(0, 4, flow), -1);
        }
    }

    private static void contextIsTheLastTaken() {
        Doc.terms("the HEADER that it took last, its number, ROUND, STRIDES.");
        Line x = mixed(3);
        x.stride(4, 2, 0);
        x.stride(4, 3, 255);
        draft(x, 1, 6, 10, 20, 30);
        x.send(4, false);
        x.deliver(0);
        dueContext(x, 4, 1, 0, 1);
        long[][] known = {{1, 6, 10, 20, 30}, {1, 6, 11, 21, 31}, {2, 7, 11, 21, 0}};
        for (int m = 0; m < 3; m++) {
            draft(x, known[m]);
            x.send(4, false);
            due("deliver", x.deliver(m + 1), TAKEN);
            dueContext(x, 4, 1, m + 1, 1);
            for (int f = 0; f < 5; f++) {
                due("value", x.known(4, f, false), known[m][f]);
            }
        }
        due("STRIDE", x.known(4, 2, true), 0);
        due("STRIDE", x.known(4, 3, true), 255);
        dueContext(x, 3, 0, -2, -2);
    }

    /** W = 1, one FREE FIELD: letters 0 WHOLE, 1 to 3 SHORT, all of 5 bytes with 2 fill bits. */
    private static Line orderly() {
        Line x = single(0, FREE, 4);
        for (int m = 0; m < 4; m++) {
            x.send(0, false);
        }
        return x;
    }

    private static String shortLetter(int number, int round, int value, boolean isAlike) {
        String sum = isAlike ? sum(value) : sum(value + 1);
        return beginning(SHORT, 0, number) + bits(round, 4) + bits(value, 4) + sum;
    }

    private static void brokenComesFirst() {
        Doc.terms("A letter that is DELIVERED, of KIND 0 to 2, has an OUTCOME, the first that holds: 5 BROKEN:");
        int[] numbers = {1, 0, 3, 1, 1};
        int[] rounds = {2, 1, 1, 1, 1};
        boolean[] alike = {true, true, true, false, true};
        int[] outcomes = {NONE, LATE, FAR, UNLIKE, TAKEN};
        for (int i = 0; i < 5; i++) {
            Line x = orderly();
            x.deliver(0);
            become(x, 1, shortLetter(numbers[i], rounds[i], 9, alike[i]), false);
            int last = x.look(1, 3) - 1;
            x.bend(1, last, 1);
            due("a fill bit, else " + outcomes[i], x.deliver(1), BROKEN);
            x.bend(1, last, 1);
            due("the rest", x.deliver(1), outcomes[i]);
        }
        Line y = orderly();
        y.bend(1, 4, 1);
        due("a fill bit, and no CONTEXT", y.deliver(1), BROKEN);
        y.deliver(0);
        y.bend(0, 4, 1);
        due("a WRONG CHECK, else LATE", y.deliver(0), BROKEN);
    }

    private static void noneComesBeforeTheRest() {
        Doc.terms("3 NONE: it is no WHOLE one, and there is no CONTEXT,");
        int[] numbers = {0, 3, 1};
        boolean[] alike = {true, true, false};
        int[] outcomes = {LATE, FAR, UNLIKE};
        for (int i = 0; i < 3; i++) {
            Line x = orderly();
            x.deliver(0);
            become(x, 1, shortLetter(numbers[i], 2, 9, alike[i]), false);
            due("another ROUND, else " + outcomes[i], x.deliver(1), NONE);
            become(x, 1, shortLetter(numbers[i], 1, 9, alike[i]), false);
            due("the rest", x.deliver(1), outcomes[i]);
            x.forget(0, 1);
            due("no CONTEXT", x.deliver(1), NONE);
        }
    }

    private static void lateAndFarComeBeforeUnlike() {
        Doc.terms("1 LATE: there is a CONTEXT,");
        Line x = orderly();
        x.deliver(0);
        become(x, 1, shortLetter(0, 1, 9, false), false);
        due("LATE before UNLIKE", x.deliver(1), LATE);
        become(x, 1, shortLetter(2, 1, 9, false), false);
        due("FAR before UNLIKE", x.deliver(1), FAR);
        become(x, 1, shortLetter(1, 1, 9, false), false);
        due("UNLIKE", x.deliver(1), UNLIKE);
    }

    private static void noneWithoutContext() {
        Doc.terms("there is no CONTEXT, or one of another ROUND.");
        Line x = single(3, STILL, 8);
        x.send(0, false);
        x.send(0, false);
        x.set(0, 5);
        x.send(0, false);
        due("SHORT", x.deliver(1), NONE);
        due("PART", x.deliver(2), NONE);
        due("WHOLE", x.deliver(0), TAKEN);
        x.send(1, false);
        x.send(1, false);
        due("another FLOW's CONTEXT is none", x.deliver(4), NONE);
        x.forget(0, 1);
        due("it was forgotten", x.deliver(1), NONE);
        due("it was forgotten", x.deliver(2), NONE);
        dueContext(x, 0, 0, -2, -2);
    }

    private static void noneInAnotherRound() {
        Doc.terms("or one of another ROUND.");
        for (int round = 0; round < 16; round++) {
            Line x = orderly();
            x.deliver(0);
            become(x, 1, shortLetter(1, round, 9, true), false);
            due("ROUND " + round + " with a CONTEXT of 1", x.deliver(1), round == 1 ? TAKEN : NONE);
        }
        Line y = single(3, STILL, 8);
        y.send(0, true);
        y.send(0, true);
        y.send(0, false);
        y.set(0, 5);
        y.send(0, false);
        y.deliver(0);
        due("SHORT of ROUND 2", y.deliver(2), NONE);
        due("PART of ROUND 2", y.deliver(3), NONE);
        due("WHOLE of ROUND 2", y.deliver(1), TAKEN);
        due("SHORT of ROUND 2", y.deliver(2), TAKEN);
        due("PART of ROUND 2", y.deliver(3), TAKEN);
    }

    private static void sameRoundSixteenLater() {
        Doc.terms("one of another ROUND.");
        Line x = single(7, FREE, 8);
        for (int m = 0; m < 17; m++) {
            x.send(0, true);
        }
        x.send(0, false);
        due("ROUND 17 is 1", x.squeezer(0, 1), 1);
        x.deliver(1);
        due("ROUND 1 with a CONTEXT of 2", x.deliver(17), NONE);
        x.forget(0, 1);
        x.deliver(0);
        due("ROUND 1 with a CONTEXT of 1", x.deliver(17), FAR);
        x.deliver(15);
        dueContext(x, 0, 1, 15, 0);
        due("ROUND 1 with a CONTEXT of 0", x.deliver(17), NONE);
        x.deliver(16);
        due("its own", x.deliver(17), TAKEN);
    }

    private static void lateUpToTheContextsNumber() {
        Doc.terms("and the number is not above its number.");
        int[] numbers = {0, 1, 299, 300, 301, 65535};
        for (int number : numbers) {
            int outcome = number <= 300 ? LATE : TAKEN;
            Line x = orderly();
            become(x, 0, beginning(WHOLE, 0, 300) + "0001 0000", true);
            due("deliver", x.deliver(0), TAKEN);
            become(x, 1, shortLetter(number, 1, 9, true), false);
            due("SHORT of " + number, x.deliver(1), number == 65535 ? FAR : outcome);
            x.forget(0, 1);
            x.deliver(0);
            become(x, 0, beginning(WHOLE, 0, number) + "0010 0000", true);
            due("WHOLE of " + number + " and another ROUND", x.deliver(0), outcome);
        }
        Line y = orderly();
        become(y, 0, beginning(WHOLE, 0, 65535) + "0001 0000", true);
        due("deliver", y.deliver(0), TAKEN);
        become(y, 1, shortLetter(0, 1, 9, true), false);
        due("0 is not above 65535", y.deliver(1), LATE);
        become(y, 0, beginning(WHOLE, 0, 0) + "0010 0000", true);
        due("0 is not above 65535", y.deliver(0), LATE);
    }

    private static void farBeyondW() {
        Doc.terms("2 FAR: it is no WHOLE one, and the number is above the CONTEXT's by more than W.");
        for (int w = 0; w < 8; w++) {
            for (int above = w; above <= w + 2; above++) {
                Line x = single(w, STILL, 8);
                for (int m = 0; m <= above; m++) {
                    x.send(0, false);
                }
                x.set(0, 1);
                x.send(0, false);
                due("deliver", x.deliver(0), TAKEN);
                if (above > 0) {
                    due("SHORT, " + above + " above", x.deliver(above), above > w + 1 ? FAR : TAKEN);
                    x.forget(0, 1);
                    x.deliver(0);
                }
                due("PART, " + (above + 1) + " above", x.deliver(above + 1), above + 1 > w + 1 ? FAR : TAKEN);
                x.forget(0, 1);
                x.deliver(0);
                int whole = x.send(0, true);
                due("WHOLE is never FAR", x.deliver(whole), TAKEN);
            }
        }
        for (int number : new int[] {1, 2, 3, 128, 255, 256, 257, 4096, 4097, 32767, 32768, 32769, 65535}) {
            Line x = orderly();
            x.deliver(0);
            become(x, 1, shortLetter(number, 1, 9, true), false);
            due("SHORT of " + number, x.deliver(1), number == 1 ? TAKEN : FAR);
            x.forget(0, 1);
            x.deliver(0);
            become(x, 0, beginning(WHOLE, 0, number) + "0010 0000", true);
            due("WHOLE of " + number, x.deliver(0), TAKEN);
        }
    }

    private static void unlikeBySum() {
        Doc.terms("4 UNLIKE: it is no WHOLE one, and SUM is not that of the HEADER that comes:");
        for (int off = 0; off < 256; off++) {
            Line x = orderly();
            x.deliver(0);
            int sum = (17 * 31 + 9 + off) % 256;
            become(x, 1, beginning(SHORT, 0, 1) + "0001 1001" + bits(sum, 8), false);
            due("SUM off by " + off, x.deliver(1), off == 0 ? TAKEN : UNLIKE);
        }
        Line y = single(0, STILL, 5);
        y.send(0, false);
        y.set(0, 3);
        y.send(0, false);
        y.deliver(0);
        y.bend(1, 3, 4);
        due("PART, a bit of its value", y.deliver(1), UNLIKE);
        y.bend(1, 3, 4);
        due("PART", y.deliver(1), TAKEN);
        y.send(0, true);
        bendAndMend(y, 2, 3, 4);
        due("WHOLE has no SUM", y.deliver(2), TAKEN);
    }

    /** PART letters, bent to give FIELDS from a CONTEXT that is 3 HEADERS before them. */
    private static void comesAsGiven() {
        Doc.terms("FIELD by FIELD what the CONTEXT gives (so in SHORT and PART where no value stands),");
        long[] given = {250, 255, 65000 + 600 - 65536, 1048000 + 3000 - 1048576, 31};
        String[] told = {"1 11111010 1 11111111 0 0", "0 0 1" + bits(given[2], 16) + "0",
            "1 11111010 0 0 1" + bits(given[3], 20), "0 1 11111111 0 0"};
        int[][] ways = {{2, 2, 0, 0, 2}, {0, 0, 2, 0, 2}, {2, 0, 0, 2, 2}, {0, 2, 0, 0, 2}};
        for (int i = 0; i < told.length; i++) {
            int[] bytes = bytesOf(beginning(PART, 0, 3) + "0001" + told[i] + "11111" + sum(given), false);
            Line x = withLetterOf(bytes.length);
            become(x, 1, bytes);
            due("PART " + i, x.deliver(1), TAKEN);
            dueGot(x, given);
            dueWays(x, ways[i]);
        }
    }

    /** A CONTEXT of number 0, and a SHORT LETTER 1 that has so many bytes (7 to 11) by the n of its FIELDS. */
    private static Line withLetterOf(int bytes) {
        Line x = mixed(3);
        x.stride(0, 2, 200);
        x.stride(0, 3, 100);
        draft(x, 250, 255, 65000, 1048000, 9);
        x.send(0, false);
        x.deliver(0);
        int n = Math.max(0, bytes * 8 - 7 - 51);
        int ofRunning = Math.min(16, n);
        draft(x, 250, 255, 65200 - half(ofRunning), 1049000 - half(n - ofRunning), 0);
        x.send(0, false);
        return x;
    }

    private static long half(int n) {
        return n == 0 ? 0 : 1L << (n - 1);
    }

    private static void comesFoundOrStanding() {
        Doc.terms("or is found by n bits from that, or stands there.");
        Line x = mixed(3);
        draft(x, 7, 12, 100, 500, 9);
        x.send(0, false);
        long[][] headers = {{7, 12, 105, 509, 1}, {7, 12, 40000, 1, 2}, {7, 12, 102, 520, 3}};
        for (int m = 1; m <= 3; m++) {
            draft(x, headers[m - 1]);
            x.send(0, false);
        }
        for (int m = 1; m <= 3; m++) {
            x.forget(0, 1);
            x.deliver(0);
            due("deliver", x.deliver(m), TAKEN);
            due("hung on", x.hung(2), 0);
            dueGot(x, headers[m - 1]);
            dueWays(x, 0, 0, 1, 1, 2);
        }
    }

    private static void takenIsGot() {
        Doc.terms("0 TAKEN: that HEADER is GOT; CONTEXT has it, its number,");
        Line x = mixed(3);
        draft(x, 7, 12, 100, 500, 9);
        x.send(5, false);
        due("deliver", x.deliver(0), TAKEN);
        dueGot(x, 7, 12, 100, 500, 9);
        dueHung(x, 5, 0, -1, 1);
        dueContext(x, 5, 1, 0, 1);
        draft(x, 8, 13, 120, 501, 10);
        x.send(5, false);
        x.send(5, false);
        due("deliver", x.deliver(2), TAKEN);
        dueGot(x, 8, 13, 120, 501, 10);
        dueHung(x, 5, 2, 0, 2);
        dueContext(x, 5, 1, 2, 1);
        long[] known = {8, 13, 120, 501, 10};
        for (int f = 0; f < 5; f++) {
            due("known", x.known(5, f, false), known[f]);
        }
    }

    private static void takenKeepsRoundAndStrides() {
        Doc.terms("and of a WHOLE letter ROUND and STRIDES, as they stand there.");
        Line x = new Line(3);
        x.field(RUNNING, 6, 0, 0);
        x.field(CLOCKED, 8, 0, 9);
        x.stride(0, 0, 7);
        x.send(0, false);
        become(x, 0, beginning(WHOLE, 0, 40) + "1111 000101 11111111 00000110 00000000", true);
        due("deliver", x.deliver(0), TAKEN);
        dueContext(x, 0, 1, 40, 15);
        due("STRIDE", x.known(0, 0, true), 255);
        due("STRIDE", x.known(0, 1, true), 0);
        draft(x, 7, 9);
        x.send(0, false);
        long running = (5 + 2 * 255) % 64;
        become(x, 1, beginning(SHORT, 0, 42) + "1111 000000 000000" + sum(running, 6), false);
        due("deliver", x.deliver(1), TAKEN);
        dueGot(x, running, 6);
        dueContext(x, 0, 1, 42, 15);
        due("STRIDE stays", x.known(0, 0, true), 255);
        due("STRIDE stays", x.known(0, 1, true), 0);
    }

    private static void otherOutcomesChangeNothing() {
        Doc.terms("CONTEXT has it");
        int[] numbers = {1, 0, 3, 1, 1};
        int[] rounds = {2, 1, 1, 1, 1};
        boolean[] alike = {true, true, true, false, true};
        int[] outcomes = {NONE, LATE, FAR, UNLIKE, BROKEN};
        for (int i = 0; i < 5; i++) {
            Line x = orderly();
            x.deliver(0);
            become(x, 1, shortLetter(numbers[i], rounds[i], 9, alike[i]), false);
            if (outcomes[i] == BROKEN) {
                x.bend(1, 4, 1);
            }
            due("deliver", x.deliver(1), outcomes[i]);
            dueContext(x, 0, 1, 0, 1);
            due("known", x.known(0, 0, false), 0);
            dueHung(x, 0, 0, -1, 1);
            dueGot(x, 0);
            dueWays(x, 2);
            dueSqueezer(x, 0, 4, 1, 1, 3, 0);
        }
    }

    private static void ackMakes() {
        Doc.promise(6, "The OPENER makes an ACK with its CONTEXT's number: the LETTER's number.");
        Line x = single(3, FREE, 8);
        x.send(4, false);
        x.send(4, false);
        x.deliver(0);
        due("ack", x.ack(4), 2);
        x.deliver(1);
        due("ack", x.ack(4), 3);
        due("ack again", x.ack(4), 4);
        int[] numbers = {0, 1, 1};
        for (int l = 2; l < 5; l++) {
            due("KIND", x.look(l, 0), ACK);
            due("FLOW", x.look(l, 1), 4);
            due("number", x.look(l, 2), numbers[l - 2]);
            dueBits(x, l, beginning(ACK, 4, numbers[l - 2]), true);
        }
        dueContext(x, 4, 1, 1, 1);
    }

    private static void ackRefusals() {
        Doc.promise(6, "-1: no such FLOW; -2: there are 200; -3: it has no CONTEXT.");
        Line x = single(3, FREE, 8);
        due("no CONTEXT", x.ack(4), -3);
        x.send(4, false);
        due("not delivered", x.ack(4), -3);
        x.deliver(0);
        for (int flow : OUT_OF_8) {
            due("FLOW " + flow, x.ack(flow), -1);
        }
        due("another FLOW", x.ack(3), -3);
        due("ack", x.ack(4), 1);
        x.forget(4, 1);
        due("forgotten", x.ack(4), -3);
        x.deliver(0);
        fill(x);
        due("201st", x.ack(4), -2);
    }

    private static void nackMakes() {
        Doc.promise(7, "It makes a NACK with the number behind its CONTEXT's,");
        Line x = single(3, FREE, 8);
        x.send(4, false);
        x.send(4, false);
        x.deliver(0);
        due("nack", x.nack(4), 2);
        x.deliver(1);
        due("nack", x.nack(4), 3);
        dueBits(x, 2, beginning(NACK, 4, 1), true);
        dueBits(x, 3, beginning(NACK, 4, 2), true);
        due("KIND", x.look(3, 0), NACK);
        due("number", x.look(3, 2), 2);
        dueContext(x, 4, 1, 1, 1);
    }

    private static void staleMakes() {
        Doc.promise(7, "or STALE with number 0, if it has none.");
        Line x = single(3, FREE, 8);
        due("nack", x.nack(4), 0);
        x.send(4, false);
        x.send(4, false);
        x.deliver(1);
        due("nack", x.nack(4), 3);
        x.deliver(1);
        x.deliver(2);
        x.forget(4, 1);
        due("nack", x.nack(4), 4);
        for (int l : new int[] {0, 4}) {
            dueBits(x, l, beginning(STALE, 4, 0), true);
            due("KIND", x.look(l, 0), STALE);
            due("number", x.look(l, 2), 0);
        }
        due("with a CONTEXT", x.look(3, 0), NACK);
        Line y = new Line(0);
        due("without FIELDS", y.nack(7), 0);
        due("KIND", y.look(0, 0), STALE);
    }

    private static void nackRefusals() {
        Doc.promise(7, "-1, -2.");
        Line x = single(3, FREE, 8);
        for (int flow : OUT_OF_8) {
            due("FLOW " + flow, x.nack(flow), -1);
        }
        due("count(1)", x.count(1), 0);
        x.send(4, false);
        x.deliver(0);
        fill(x);
        due("201st, STALE", x.nack(0), -2);
        due("201st, NACK", x.nack(4), -2);
        due("count(1)", x.count(1), 200);
    }

    private static void deliverAnswersTheOutcome() {
        Doc.promise(8, "LETTER l is DELIVERED: the OUTCOME.");
        Line x = orderly();
        due("NONE", x.deliver(1), 3);
        due("TAKEN", x.deliver(0), 0);
        due("LATE", x.deliver(0), 1);
        due("FAR", x.deliver(2), 2);
        x.bend(1, 3, 1);
        due("UNLIKE", x.deliver(1), 4);
        x.bend(1, 4, 1);
        due("BROKEN", x.deliver(1), 5);
        int nack = x.nack(0);
        due("6", x.deliver(nack), 6);
        due("7", x.deliver(nack), 7);
    }

    private static void deliverRefusals() {
        Doc.promise(8, "-1: there is none, or it is lost.");
        Line x = single(3, FREE, 8);
        due("there is none", x.deliver(0), -1);
        x.send(4, false);
        for (int l : new int[] {-1, 1, 199, 200, MIN, MAX}) {
            due("LETTER " + l, x.deliver(l), -1);
        }
        x.lose(0);
        due("lost", x.deliver(0), -1);
        dueContext(x, 4, 0, -2, -2);
        due("OUTCOME", x.look(0, 5), -1);
    }

    private static void gotTells() {
        Doc.promise(15, "The value of a FIELD in the HEADER that was GOT last.");
        Line x = mixed(3);
        draft(x, 255, 4, 65535, 1048575, 31);
        x.send(0, false);
        draft(x, 1, 6, 2, 3, 4);
        x.send(1, false);
        x.deliver(1);
        dueGot(x, 1, 6, 2, 3, 4);
        x.deliver(0);
        dueGot(x, 255, 4, 65535, 1048575, 31);
        due("LATE", x.deliver(1), LATE);
        dueGot(x, 255, 4, 65535, 1048575, 31);
        x.forget(0, 1);
        dueGot(x, 255, 4, 65535, 1048575, 31);
    }

    private static void gotRefusals() {
        Doc.promise(15, "-1: no such FIELD; -2: none was.");
        Line x = mixed(3);
        x.send(0, false);
        for (int turn = 0; turn < 2; turn++) {
            for (int field : new int[] {-1, 5, 8, MIN, MAX}) {
                due("FIELD " + field, x.got(field), -1);
            }
            for (int f = 0; f < 5; f++) {
                due("FIELD " + f, x.got(f), turn == 0 ? -2 : 0);
            }
            x.deliver(0);
        }
    }

    private static void wayTells() {
        Doc.promise(16, "How it came: 0 as given, 1 found by bits, 2 it stood there.");
        Line x = mixed(0);
        draft(x, 1, 6, 2, 3, 4);
        x.send(0, false);
        draft(x, 1, 6, 3, 99, 4);
        x.send(0, false);
        draft(x, 2, 6, 4, 100, 4);
        x.send(0, false);
        int[][] ways = {{2, 2, 2, 2, 2}, {0, 0, 1, 1, 2}, {2, 2, 0, 2, 2}};
        for (int l = 0; l < 3; l++) {
            due("deliver", x.deliver(l), TAKEN);
            dueWays(x, ways[l]);
        }
        due("LATE", x.deliver(0), LATE);
        dueWays(x, ways[2]);
    }

    private static void wayRefusals() {
        Doc.promise(16, "-1, -2 as got().");
        Line x = mixed(3);
        x.send(0, false);
        for (int turn = 0; turn < 2; turn++) {
            for (int field : new int[] {-1, 5, 8, MIN, MAX}) {
                due("FIELD " + field, x.way(field), -1);
            }
            for (int f = 0; f < 5; f++) {
                due("FIELD " + f, x.way(f), turn == 0 ? -2 : 2);
            }
            x.deliver(0);
        }
    }

    private static void hungTells() {
        Doc.promise(17, "Of the HEADER that was GOT last: 0 its FLOW, 1 its number, 2 the number of the HEADER that it hung on"
                + " (-1: of none), 3 how many were GOT so far.");
        Line x = single(7, STILL, 6);
        for (int m = 0; m < 6; m++) {
            x.set(0, m / 3);
            x.send(7, m == 5);
        }
        x.deliver(0);
        dueHung(x, 7, 0, -1, 1);
        x.deliver(2);
        dueHung(x, 7, 2, 0, 2);
        x.deliver(3);
        dueHung(x, 7, 3, 2, 3);
        x.deliver(5);
        dueHung(x, 7, 5, -1, 4);
        due("LATE", x.deliver(4), NONE);
        dueHung(x, 7, 5, -1, 4);
        Line y = single(7, FREE, 6);
        y.send(0, false);
        become(y, 0, beginning(WHOLE, 6, 65535) + "0001 000000", true);
        y.deliver(0);
        dueHung(y, 6, 65535, -1, 1);
    }

    private static void hungRefusals() {
        Doc.promise(17, "-1: another what; -2: none was (3 is 0 then).");
        Line x = single(7, FREE, 6);
        x.send(0, false);
        dueHung(x, -2, -2, -2, 0);
        for (int turn = 0; turn < 2; turn++) {
            for (int what : new int[] {-1, 4, 5, MIN, MAX}) {
                due("what " + what, x.hung(what), -1);
            }
            x.deliver(0);
        }
        dueHung(x, 0, 0, -1, 1);
    }

    private static void contextTells() {
        Doc.promise(18, "Of a FLOW's CONTEXT: 0 whether there is one, 1 its number, 2 ROUND (-2 without one).");
        Line x = single(7, FREE, 6);
        dueContext(x, 3, 0, -2, -2);
        x.send(3, false);
        x.send(3, true);
        x.send(3, false);
        x.deliver(0);
        dueContext(x, 3, 1, 0, 1);
        x.deliver(1);
        dueContext(x, 3, 1, 1, 2);
        x.deliver(2);
        dueContext(x, 3, 1, 2, 2);
        dueContext(x, 2, 0, -2, -2);
        x.forget(3, 1);
        dueContext(x, 3, 0, -2, -2);
    }

    private static void contextRefusals() {
        Doc.promise(18, "-1: no such FLOW, what.");
        Line x = single(7, FREE, 6);
        for (int turn = 0; turn < 2; turn++) {
            for (int flow : OUT_OF_8) {
                for (int what = 0; what < 3; what++) {
                    due("FLOW " + flow, x.context(flow, what), -1);
                }
            }
            for (int what : new int[] {-1, 3, 4, MIN, MAX}) {
                due("what " + what, x.context(0, what), -1);
            }
            x.send(0, false);
            x.deliver(0);
        }
    }

    private static void knownTells() {
        Doc.promise(19, "The value of a FIELD in it (strides false), or its STRIDE (1 of KINDS that have none).");
        Line x = mixed(3);
        x.stride(2, 2, 255);
        x.stride(2, 3, 0);
        draft(x, 255, 4, 65535, 1048575, 31);
        x.send(2, false);
        x.deliver(0);
        long[] values = {255, 4, 65535, 1048575, 31};
        int[] strides = {1, 1, 255, 0, 1};
        for (int f = 0; f < 5; f++) {
            due("value", x.known(2, f, false), values[f]);
            due("STRIDE", x.known(2, f, true), strides[f]);
        }
        x.stride(2, 3, 9);
        due("the SQUEEZER's is not known yet", x.known(2, 3, true), 0);
    }

    private static void knownRefusals() {
        Doc.promise(19, "-1: no such FLOW, FIELD; -2: there is none.");
        Line x = mixed(3);
        x.send(0, false);
        for (int turn = 0; turn < 2; turn++) {
            for (int flow : OUT_OF_8) {
                due("FLOW " + flow, x.known(flow, 0, false), -1);
                due("FLOW " + flow, x.known(flow, 2, true), -1);
            }
            for (int field : new int[] {-1, 5, 8, MIN, MAX}) {
                due("FIELD " + field, x.known(0, field, false), -1);
                due("FIELD " + field, x.known(0, field, true), -1);
            }
            due("value", x.known(0, 4, false), turn == 0 ? -2 : 0);
            due("STRIDE", x.known(0, 4, true), turn == 0 ? -2 : 1);
            x.deliver(0);
        }
        x.forget(0, 1);
        due("forgotten", x.known(0, 0, false), -2);
    }

    private static void forgetContext() {
        Doc.promise(21, "A FLOW's CONTEXT at the OPENER goes (end 1),");
        Line x = single(7, RUNNING, 6);
        x.send(0, false);
        x.send(0, false);
        x.send(1, false);
        x.deliver(0);
        x.deliver(2);
        due("forget", x.forget(0, 1), 1);
        dueContext(x, 0, 0, -2, -2);
        dueContext(x, 1, 1, 0, 1);
        dueSqueezer(x, 0, 2, 1, 2, 0, 0);
        due("SHORT", x.deliver(1), NONE);
        due("WHOLE again", x.deliver(0), TAKEN);
        due("SHORT", x.deliver(1), TAKEN);
    }

    private static void forgetAnswersWhetherAnythingWent() {
        Doc.promise(21, "whether there was anything to go (a CONTEXT, a reference).");
        Line x = single(7, FREE, 6);
        due("no CONTEXT", x.forget(0, 1), 0);
        due("no reference", x.forget(0, 0), 0);
        x.send(0, false);
        due("no CONTEXT", x.forget(0, 1), 0);
        x.deliver(0);
        due("another FLOW", x.forget(1, 1), 0);
        due("another FLOW", x.forget(1, 0), 0);
        due("a CONTEXT", x.forget(0, 1), 1);
        due("no CONTEXT", x.forget(0, 1), 0);
        due("a reference", x.forget(0, 0), 1);
        due("no reference", x.forget(0, 0), 0);
        due("it owes already", x.squeezer(0, 4), 1);
    }

    private static void forgetRefusals() {
        Doc.promise(21, " -1.");
        Line x = single(7, FREE, 6);
        x.send(0, false);
        x.deliver(0);
        for (int flow : OUT_OF_8) {
            due("FLOW " + flow, x.forget(flow, 0), -1);
            due("FLOW " + flow, x.forget(flow, 1), -1);
        }
        for (int end : new int[] {-1, 2, 3, MIN, MAX}) {
            due("end " + end, x.forget(0, end), -1);
        }
        dueContext(x, 0, 1, 0, 1);
        dueSqueezer(x, 0, 1, 1, 1, 0, 0);
    }
}
