/** The sentences about letters that are BROKEN and about answers at the SQUEEZER: a test for each. */
final class DeliverySentences extends Scene {
    private DeliverySentences() {
    }

    static void all() {
        everyTurnedBitOfAWholeLetter();
        kindAboveFive();
        wholeEndsAhead();
        partEndsAhead();
        shortEndsAhead();
        wholeIsLonger();
        partIsLonger();
        shortIsLonger();
        answerIsLonger();
        fillBits();
        fillBitsOfPart();
        fillBitsOfAnswers();
        aboveWidth();
        wrongCheckOfWhole();
        checkThatIsRightAgain();
        wrongCheckOfAnswers();
        ackOfEachReference();
        ackOfNoReference();
        ackOfAnotherFlow();
        ackTurns();
        nackAndStaleOwe();
        nackNumbersDontMatter();
    }

    private static void everyTurnedBitOfAWholeLetter() {
        Doc.terms("5 BROKEN: it isn't a row of bits as told");
        Line x = single(0, RUNNING, 8);
        x.set(0, 9);
        x.send(1, false);
        for (int k = 0; k < 7; k++) {
            for (int bit = 1; bit < 256; bit <<= 1) {
                x.bend(0, k, bit);
                due("byte " + k + " bit " + bit, x.deliver(0), BROKEN);
                x.bend(0, k, bit);
            }
        }
        dueContext(x, 1, 0, -2, -2);
        due("GOT", x.hung(3), 0);
        due("mended", x.deliver(0), TAKEN);
    }

    /** KINDS 6 and 7 as if they were any other: of each length, with SUM right and with CHECK right. */
    private static void kindAboveFive() {
        Doc.terms("(a KIND above 5;");
        for (int kind = 6; kind <= 7; kind++) {
            Line x = single(0, FREE, 6);
            x.send(0, false);
            x.send(0, false);
            x.nack(1);
            x.deliver(0);
            become(x, 0, beginning(kind, 0, 1) + "0001 000000", true);
            due("as WHOLE", x.deliver(0), BROKEN);
            become(x, 1, beginning(kind, 0, 1) + "0001 000000" + sum(0), false);
            due("as SHORT", x.deliver(1), BROKEN);
            become(x, 2, beginning(kind, 0, 0), true);
            due("as an answer", x.deliver(2), BROKEN);
            due("OUTCOME", x.look(2, 5), BROKEN);
            dueSqueezer(x, 0, 2, 1, 1, 1, 0);
            dueContext(x, 0, 1, 0, 1);
        }
    }

    /** A SHORT letter has 5 bytes, so there are 32 bits ahead of a CHECK: WHOLE has 33 with WIDTH 7. */
    private static void wholeEndsAhead() {
        Doc.terms("it ends ahead of its end,");
        for (int width = 6; width <= 32; width++) {
            Line x = single(0, STILL, width);
            x.send(0, false);
            x.send(0, false);
            become(x, 1, beginning(WHOLE, 0, 1) + "0010 000000", true);
            due("WIDTH " + width, x.deliver(1), width == 6 ? TAKEN : BROKEN);
        }
        Line y = single(0, FREE, 1);
        int stale = y.nack(0);
        for (int kind = WHOLE; kind <= SHORT; kind++) {
            become(y, stale, beginning(kind, 0, 1), true);
            due("no more bits than an answer has, KIND " + kind, y.deliver(stale), BROKEN);
        }
    }

    /** A SHORT letter has 5 bytes: a PART one with a value of WIDTH 5 has 40 bits, of WIDTH 6 one more. */
    private static void partEndsAhead() {
        Doc.terms("it ends ahead of its end");
        for (int width = 4; width <= 32; width++) {
            Line x = single(0, STILL, width);
            x.send(0, false);
            x.send(0, false);
            x.deliver(0);
            int fits = Math.min(width, 5);
            long value = (1L << width) - 1;
            String whole = beginning(PART, 0, 1) + "0001 1" + bits(value, width) + sum(value);
            become(x, 1, whole.replace(" ", "").substring(0, 35 + fits), false);
            due("WIDTH " + width, x.deliver(1), width <= 5 ? TAKEN : BROKEN);
            x.forget(0, 1);
            due("without a CONTEXT", x.deliver(1), width <= 5 ? NONE : BROKEN);
        }
    }

    /** A SHORT letter with n 0 has 40 bits: with n 1 it is a bit too long for its 5 bytes. */
    private static void shortEndsAhead() {
        Doc.terms("ends ahead of its end,");
        for (int n = 0; n <= 8; n++) {
            Line x = single(0, RUNNING, 8);
            x.send(0, false);
            x.set(0, 1);
            x.send(0, false);
            x.deliver(0);
            String whole = beginning(SHORT, 0, 1) + "0001" + bits(n, 6) + bits(1, n) + sum(1);
            become(x, 1, whole.substring(0, 40), false);
            due("n " + n, x.deliver(1), n == 0 ? TAKEN : BROKEN);
            x.forget(0, 1);
            due("without a CONTEXT", x.deliver(1), n == 0 ? NONE : BROKEN);
        }
    }

    /** A PART letter with a value of WIDTH 6 has 6 bytes; a WHOLE one has 5. */
    private static void wholeIsLonger() {
        Doc.terms("or is a byte longer or more;");
        Line x = single(0, STILL, 6);
        x.send(0, false);
        x.set(0, 1);
        x.send(0, false);
        become(x, 1, beginning(WHOLE, 0, 1) + "0010 000001 00000000", true);
        due("a byte longer", x.deliver(1), BROKEN);
        become(x, 1, beginning(WHOLE, 0, 1) + "0010 000001 11111111", true);
        due("a byte longer", x.deliver(1), BROKEN);
        Line y = new Line(0);
        for (int f = 0; f < 8; f++) {
            y.field(STILL, 1, 0, 0);
        }
        y.send(0, false);
        draft(y, 1, 1, 1, 1, 1, 1, 1, 1);
        y.send(0, false);
        become(y, 1, beginning(WHOLE, 0, 1) + "0010 11111111 000000 00000000", true);
        due("a byte longer behind fill bits", y.deliver(1), BROKEN);
    }

    private static void partIsLonger() {
        Doc.terms("is a byte longer or more;");
        for (int width = 1; width <= 32; width++) {
            Line x = single(0, STILL, width);
            x.send(0, false);
            x.set(0, 1);
            x.send(0, false);
            x.deliver(0);
            int bytes = x.look(1, 3);
            String told = beginning(PART, 0, 1) + "0001 0" + sum(0);
            become(x, 1, told + "0".repeat(bytes * 8 - 35), false);
            due("WIDTH " + width + " not told", x.deliver(1), bytes == 5 ? TAKEN : BROKEN);
            x.forget(0, 1);
            due("without a CONTEXT", x.deliver(1), bytes == 5 ? NONE : BROKEN);
        }
    }

    private static void shortIsLonger() {
        Doc.terms("a byte longer or more;");
        for (int n = 1; n <= 32; n++) {
            Line x = single(0, RUNNING, 32);
            x.send(0, false);
            x.set(0, 1 - (1L << (n - 1)));
            x.send(0, false);
            x.deliver(0);
            int bytes = x.look(1, 3);
            due("bytes of n " + n, bytes, 6 + (n - 1) / 8);
            String told = beginning(SHORT, 0, 1) + "0001 000000" + sum(1);
            become(x, 1, told + "0".repeat(bytes * 8 - 40), false);
            due("n 0 for n " + n, x.deliver(1), BROKEN);
            int least = bytes * 8 - 47;
            String longer = beginning(SHORT, 0, 1) + "0001" + bits(least, 6) + bits(1, least) + sum(1);
            become(x, 1, longer + "0".repeat(bytes * 8 - 40 - least), false);
            due("7 fill bits are not too many", x.deliver(1), TAKEN);
        }
    }

    private static void answerIsLonger() {
        Doc.terms("or is a byte longer or more");
        for (int kind = ACK; kind <= STALE; kind++) {
            for (int width : new int[] {6, 7, 14, 15, 32}) {
                Line x = single(0, STILL, width);
                x.send(0, false);
                int bytes = x.look(0, 3);
                become(x, 0, beginning(kind, 0, 0) + "0".repeat((bytes - 1) * 8 - 22), true);
                due("KIND " + kind + " of " + bytes + " bytes", x.deliver(0), BROKEN);
                dueSqueezer(x, 0, 1, 1, 1, 0, 0);
            }
        }
    }

    private static void fillBits() {
        Doc.terms("a fill bit is 1;");
        for (int width = 1; width <= 16; width++) {
            Line x = single(0, FREE, width);
            x.send(0, false);
            x.send(0, false);
            int fill = (8 - (26 + width) % 8) % 8;
            int lastOfWhole = x.look(0, 3) - 2;
            int lastOfShort = x.look(1, 3) - 1;
            for (int i = 0; i < fill; i++) {
                bendAndMend(x, 0, lastOfWhole, 1 << i);
                due("WHOLE, fill bit " + i + ", WIDTH " + width, x.deliver(0), BROKEN);
                bendAndMend(x, 0, lastOfWhole, 1 << i);
            }
            due("WHOLE", x.deliver(0), TAKEN);
            for (int i = 0; i < fill; i++) {
                x.bend(1, lastOfShort, 1 << i);
                due("SHORT, fill bit " + i + ", WIDTH " + width, x.deliver(1), BROKEN);
                x.bend(1, lastOfShort, 1 << i);
            }
            x.bend(1, lastOfShort, 1 << fill);
            due("a bit of SUM is none", x.deliver(1), UNLIKE);
            x.bend(1, lastOfShort, 1 << fill);
            due("SHORT", x.deliver(1), TAKEN);
        }
    }

    private static void fillBitsOfPart() {
        Doc.terms("a fill bit is 1");
        for (int width = 1; width <= 16; width++) {
            Line x = single(0, STILL, width);
            x.send(0, false);
            x.set(0, 1);
            x.send(0, false);
            x.deliver(0);
            int fill = (8 - (35 + width) % 8) % 8;
            int last = x.look(1, 3) - 1;
            for (int i = 0; i < fill; i++) {
                x.bend(1, last, 1 << i);
                due("PART, fill bit " + i + ", WIDTH " + width, x.deliver(1), BROKEN);
                x.bend(1, last, 1 << i);
            }
            due("PART", x.deliver(1), TAKEN);
        }
    }

    private static void fillBitsOfAnswers() {
        Doc.terms("DELIVERED to the SQUEEZER, KIND 3 to 5: 5 BROKEN likewise.");
        for (int kind = ACK; kind <= STALE; kind++) {
            Line x = single(0, FREE, 8);
            x.send(0, false);
            int l = x.nack(5);
            for (String fill : new String[] {"01", "10", "11"}) {
                become(x, l, beginning(kind, 0, 0) + fill, true);
                due("KIND " + kind + ", fill bits " + fill, x.deliver(l), BROKEN);
                dueSqueezer(x, 0, 1, 1, 1, 0, 0);
            }
            become(x, l, beginning(kind, 0, 0), true);
            due("KIND " + kind, x.deliver(l), 6);
        }
    }

    /** There is room for one bit more, and SUM is right for the WIDTH lowest bits. */
    private static void aboveWidth() {
        Doc.terms("n is above WIDTH;");
        for (int width = 1; width <= 32; width++) {
            int free = 1 + (8 - (40 + width) % 8) % 8;
            Line x = single(0, RUNNING, width);
            x.field(FREE, free, 0, 0);
            x.send(0, false);
            long far = (1 + (1L << (width - 1))) & ((1L << width) - 1);
            x.set(0, far);
            x.send(0, false);
            x.deliver(0);
            due("n is WIDTH", x.prove(1, 0, 0), width);
            String start = beginning(SHORT, 0, 1) + "0001";
            String end = bits(0, free) + sum(far, 0);
            become(x, 1, start + bits(width + 1, 6) + "0" + bits(far, width) + end, false);
            due("n is WIDTH + 1, WIDTH " + width, x.deliver(1), BROKEN);
            x.forget(0, 1);
            due("without a CONTEXT", x.deliver(1), BROKEN);
            x.deliver(0);
            become(x, 1, start + bits(63, 6) + "0" + bits(far, width) + end, false);
            due("n is 63, WIDTH " + width, x.deliver(1), BROKEN);
            become(x, 1, start + bits(width, 6) + bits(far, width) + end, false);
            due("n is WIDTH, WIDTH " + width, x.deliver(1), TAKEN);
            due("got", x.got(0), far);
        }
    }

    private static void wrongCheckOfWhole() {
        Doc.terms("a WRONG CHECK).");
        Line x = single(0, FREE, 6);
        x.send(0, false);
        int right = x.octet(0, 4);
        int stands = right;
        for (int check = 0; check < 256; check += check < 250 ? 5 : 1) {
            if (check != right) {
                x.bend(0, 4, check ^ stands);
                stands = check;
                due("CHECK " + check, x.deliver(0), BROKEN);
            }
        }
        for (int check : new int[] {right - 1, right + 1}) {
            x.bend(0, 4, check ^ stands);
            stands = check;
            due("CHECK " + check, x.deliver(0), BROKEN);
        }
        x.bend(0, 4, right ^ stands);
        for (int k = 0; k < 4; k++) {
            x.bend(0, k, 1);
            due("byte " + k + " without its CHECK", x.deliver(0), BROKEN);
            x.bend(0, k, 1);
        }
        dueContext(x, 0, 0, -2, -2);
        due("CHECK " + right, x.deliver(0), TAKEN);
    }

    private static void checkThatIsRightAgain() {
        Doc.terms("a WRONG CHECK");
        Line x = single(0, FREE, 14);
        x.set(0, 5);
        x.send(0, false);
        x.bend(0, 3, 1);
        due("bent", x.deliver(0), BROKEN);
        x.bend(0, 4, 1);
        due("one more and one less make the same CHECK", x.deliver(0), TAKEN);
        due("got", x.got(0), 256 + 4);
        Line y = single(0, FREE, 6);
        y.set(0, 7);
        y.send(0, false);
        become(y, 0, beginning(WHOLE, 6, 77) + "1010 101010", true);
        due("CHECK is right for what stands there", y.deliver(0), TAKEN);
        due("got", y.got(0), 42);
        dueHung(y, 6, 77, -1, 1);
        dueContext(y, 6, 1, 77, 10);
        dueContext(y, 0, 0, -2, -2);
    }

    private static void wrongCheckOfAnswers() {
        Doc.terms("5 BROKEN likewise.");
        for (int kind = ACK; kind <= STALE; kind++) {
            Line x = single(0, FREE, 8);
            x.send(0, false);
            int l = x.nack(0);
            become(x, l, beginning(kind, 0, 0), true);
            for (int k = 0; k < 4; k++) {
                for (int bit = 1; bit < 256; bit <<= 1) {
                    x.bend(l, k, bit);
                    due("KIND " + kind + ", byte " + k + " bit " + bit, x.deliver(l), BROKEN);
                    x.bend(l, k, bit);
                }
            }
            dueSqueezer(x, 0, 1, 1, 1, 0, 0);
            due("mended", x.deliver(l), 6);
        }
    }

    private static Line withReferences(int w, int headers) {
        Line x = single(w, FREE, 8);
        for (int m = 0; m < headers; m++) {
            x.send(0, false);
        }
        return x;
    }

    private static void ackOfEachReference() {
        Doc.terms("ACK: if a reference of the FLOW has that number (modulo 65536), all older ones go: 6,");
        for (int number = 4; number < 12; number++) {
            Line x = withReferences(7, 12);
            int l = x.nack(0);
            become(x, l, beginning(ACK, 0, number), true);
            due("ACK of " + number, x.deliver(l), 6);
            dueSqueezer(x, 0, 12, 1, 12 - number, number, 0);
            due("ACK again", x.deliver(l), 6);
            dueSqueezer(x, 0, 12, 1, 12 - number, number, 0);
            x.keep(0, 3, 0);
            for (int i = 0; i < 12 - number; i++) {
                due("the younger ones stay", x.put(0, i, 0), number + i);
            }
            x.send(0, false);
            int held = Math.min(13 - number, 8);
            dueSqueezer(x, 0, 13, 1, held, 13 - held, 0);
        }
        Line y = withReferences(7, 3);
        y.forget(0, 1);
        y.deliver(0);
        y.deliver(1);
        y.deliver(y.nack(0));
        due("owes", y.squeezer(0, 4), 1);
        due("ACK", y.deliver(y.ack(0)), 6);
        dueSqueezer(y, 0, 3, 1, 2, 1, 1);
    }

    private static void ackOfNoReference() {
        Doc.terms("else 7.");
        for (int number : new int[] {0, 3, 12, 13, 65535}) {
            Line x = withReferences(7, 12);
            int l = x.nack(0);
            become(x, l, beginning(ACK, 0, number), true);
            due("ACK of " + number, x.deliver(l), 7);
            dueSqueezer(x, 0, 12, 1, 8, 4, 0);
        }
        for (int w = 0; w < 8; w++) {
            for (int number = 0; number < 25; number++) {
                boolean isThere = number < 20 && number >= 19 - w;
                Line x = withReferences(w, 20);
                int l = x.nack(0);
                become(x, l, beginning(ACK, 0, number), true);
                due("ACK of " + number + " of 20, W " + (w + 1), x.deliver(l), isThere ? 6 : 7);
                dueSqueezer(x, 0, 20, 1, isThere ? 20 - number : w + 1, isThere ? number : 19 - w, 0);
            }
        }
        Line y = withReferences(7, 2);
        y.forget(0, 0);
        int l = y.nack(0);
        become(y, l, beginning(ACK, 0, 1), true);
        due("without references", y.deliver(l), 7);
        dueSqueezer(y, 0, 2, 1, 0, -2, 1);
    }

    private static void ackOfAnotherFlow() {
        Doc.terms("a reference of the FLOW");
        Line x = withReferences(7, 4);
        int l = x.nack(0);
        become(x, l, beginning(ACK, 1, 2), true);
        due("FLOW 1 has none", x.deliver(l), 7);
        for (int m = 0; m < 4; m++) {
            x.send(1, false);
        }
        due("FLOW 1", x.deliver(l), 6);
        dueSqueezer(x, 1, 4, 1, 2, 2, 0);
        dueSqueezer(x, 0, 4, 1, 4, 0, 0);
    }

    /** A CONTEXT that was bent to a higher number makes ACKs that no reference of the SQUEEZER has. */
    private static void ackTurns() {
        Doc.terms("that number (modulo 65536),");
        Line x = withReferences(7, 1);
        become(x, 0, beginning(WHOLE, 0, 65535) + "0001 00000000", true);
        due("deliver", x.deliver(0), TAKEN);
        due("ACK of 65535", x.deliver(x.ack(0)), 7);
        int nack = x.nack(0);
        due("number behind 65535", x.look(nack, 2), 0);
        become(x, nack, beginning(ACK, 0, 0), true);
        due("as ACK of 0", x.deliver(nack), 6);
    }

    private static void nackAndStaleOwe() {
        Doc.terms("NACK, STALE: the FLOW owes a WHOLE letter: 6 (7, if it owes one already).");
        for (int kind = NACK; kind <= STALE; kind++) {
            Line x = withReferences(3, 6);
            x.send(1, false);
            x.deliver(0);
            int l = kind == NACK ? x.nack(0) : x.nack(2);
            become(x, l, beginning(kind, 0, 0), true);
            due("KIND " + kind, x.deliver(l), 6);
            dueSqueezer(x, 0, 6, 1, 4, 2, 1);
            due("another FLOW owes none", x.squeezer(1, 4), 0);
            due("owed already", x.deliver(l), 7);
            dueSqueezer(x, 0, 6, 1, 4, 2, 1);
            x.send(0, false);
            due("WHOLE", x.look(8, 0), WHOLE);
            due("owed no more", x.deliver(l), 6);
            become(x, l, beginning(kind, 5, 0), true);
            due("owed from the first", x.deliver(l), 7);
            dueContext(x, 0, 1, 0, 1);
            due("GOT", x.hung(3), 1);
        }
    }

    private static void nackNumbersDontMatter() {
        Doc.terms("NACK, STALE: the FLOW owes a WHOLE letter: 6");
        for (int kind = NACK; kind <= STALE; kind++) {
            for (int number : new int[] {0, 1, 2, 3, 65535}) {
                Line x = withReferences(0, 3);
                int l = x.nack(0);
                become(x, l, beginning(kind, 0, number), true);
                due("KIND " + kind + ", number " + number, x.deliver(l), 6);
                dueSqueezer(x, 0, 3, 1, 1, 2, 1);
            }
        }
    }
}
