/** The sentences about SHELVES: a test for each. */
final class ShelfSentences extends Scene {
    private static final int SHORTS = 2;
    private static final int INTS = 3;
    private static final int LONGS = 4;

    private ShelfSentences() {
    }

    static void all() {
        nothingAtFirst();
        letterAsItIsThen();
        rowsOfThreeKinds();
        refusalNumbers();
        keepNothing();
        keepLetter();
        keepBytes();
        keepReferences();
        keepContext();
        keepRefusals();
        makeZeros();
        makeRefusals();
        makeBelowZero();
        putBecomes();
        putRefusals();
        copyComes();
        copyAsTheyWere();
        copyNoSuchShelf();
        copyOfNothing();
        copyOfOtherKinds();
        copyBeyond();
        worths();
        worthRefusals();
        tosses();
        tossRefusals();
        tossWithoutFailure();
    }

    /** LETTERS 0 to 5 are of KINDS 0 to 5. */
    private static Line withLetters(int width) {
        Line x = single(0, STILL, width);
        x.send(0, false);
        x.set(0, 1);
        x.send(0, false);
        x.send(0, false);
        x.deliver(0);
        x.ack(0);
        x.nack(0);
        x.nack(1);
        return x;
    }

    /** SHELF 0 nothing, 1 a LETTER, 2 to 4 ROWS of 5 shorts, ints, longs: 10, 11, 12, 13, 14. */
    private static Line withShelves() {
        Line x = withLetters(8);
        x.keep(1, 1, 1);
        for (int what = SHORTS; what <= LONGS; what++) {
            x.make(what, what, 5);
            for (int i = 0; i < 5; i++) {
                x.put(what, i, 10 + i);
            }
        }
        return x;
    }

    private static void dueRow(Line x, int s, long... row) {
        for (int i = 0; i < row.length; i++) {
            due("element " + i + " on SHELF " + s, x.put(s, i, 0), row[i]);
        }
        due("behind its end", x.put(s, row.length, 0), -13);
    }

    private static void nothingAtFirst() {
        Doc.terms("SHELVES 0 .. 7 each hold nothing (at first),");
        Line x = withLetters(8);
        for (int s = 0; s < 8; s++) {
            due("put", x.put(s, 0, 1), -11);
            due("worth", x.worth(s), -11);
            due("toss", x.toss(s), -11);
            due("copy", x.copy(s, 0, s, 0, 0), -11);
        }
        for (int s = 0; s < 8; s++) {
            due("keep", x.keep(s, 1, s % 6), 0);
        }
        for (int s = 0; s < 8; s++) {
            due("KIND", x.toss(s), s % 3 == 0 ? -15 : s % 6);
        }
    }

    private static void letterAsItIsThen() {
        Doc.terms("a LETTER (as it is then),");
        Line x = withLetters(8);
        for (int l = 0; l < 6; l++) {
            x.keep(l, 1, l);
        }
        x.keep(6, SHORTS, 4);
        int first = x.octet(4, 0);
        int[] worths = new int[6];
        for (int l = 0; l < 6; l++) {
            worths[l] = x.worth(l);
            x.bend(l, 0, 224);
            x.deliver(l);
            x.lose(l);
            x.send(0, true);
        }
        for (int l = 0; l < 6; l++) {
            due("worth", x.worth(l), worths[l]);
        }
        due("toss", x.toss(4), NACK);
        due("its bytes as they were then", x.put(6, 0, 0), first);
    }

    private static void rowsOfThreeKinds() {
        Doc.terms("a ROW of shorts, ints or longs.");
        Line x = new Line(7);
        x.field(FREE, 32, 0, 0);
        x.set(0, 4294967295L);
        x.send(0, false);
        x.deliver(0);
        due("bytes", x.keep(0, SHORTS, 0), 0);
        due("numbers", x.keep(1, INTS, 0), 0);
        due("values", x.keep(2, LONGS, 0), 0);
        for (int what = SHORTS; what <= LONGS; what++) {
            x.make(3, what, 1);
            for (int s = 0; s < 3; s++) {
                boolean isOfOneKind = s + SHORTS == what;
                due("ROW " + s + " to a ROW " + what, x.copy(s, 0, 3, 0, 1), isOfOneKind ? 1 : -12);
            }
        }
        due("a value beyond an int", x.put(3, 0, 0), 4294967295L);
    }

    private static void refusalNumbers() {
        Doc.terms("Their REFUSALS: -11 nothing is held where something is wanted; -12 it is of another kind; -13 a place"
                + " that it doesn't have; -14 a size below 0; -15 a FAILURE that is none.");
        Line x = withShelves();
        x.keep(5, 1, 0);
        due("nothing", x.put(0, 0, 1), -11);
        due("nothing", x.worth(0), -11);
        due("nothing", x.toss(0), -11);
        due("nothing", x.copy(0, 0, 2, 0, 1), -11);
        due("another kind", x.put(1, 0, 1), -12);
        due("another kind", x.worth(2), -12);
        due("another kind", x.toss(3), -12);
        due("another kind", x.copy(2, 0, 3, 0, 1), -12);
        due("a place", x.put(2, 5, 1), -13);
        due("a place", x.copy(2, 5, 2, 0, 1), -13);
        due("a size", x.make(2, SHORTS, -1), -14);
        due("a FAILURE", x.toss(5), -15);
    }

    private static void keepNothing() {
        Doc.promise(23, "SHELF s gets: what = 0 nothing;");
        Line x = withShelves();
        for (int s = 0; s < 8; s++) {
            due("keep", x.keep(s, 0, s % 2 == 0 ? MIN : MAX), 0);
            due("put", x.put(s, 0, 1), -11);
            due("worth", x.worth(s), -11);
        }
    }

    private static void keepLetter() {
        Doc.promise(23, "1 LETTER k;");
        Line x = withLetters(8);
        for (int l = 0; l < 6; l++) {
            due("keep", x.keep(7, 1, l), 0);
            due("KIND", x.toss(7), l % 3 == 0 ? -15 : l);
            due("a LETTER is no ROW", x.put(7, 0, 1), -12);
        }
        x.lose(2);
        due("a lost one", x.keep(6, 1, 2), 0);
        due("KIND", x.toss(6), SHORT);
        due("a copy", x.keep(5, 1, x.twice(1)), 0);
        due("KIND", x.toss(5), PART);
    }

    private static void keepBytes() {
        Doc.promise(23, "2 a ROW of shorts: its bytes;");
        Line x = withLetters(8);
        for (int l = 0; l < 6; l++) {
            due("keep", x.keep(l, SHORTS, l), 0);
            int bytes = x.look(l, 3);
            for (int k = 0; k < bytes; k++) {
                due("byte", x.put(l, k, 0), x.octet(l, k));
            }
            due("behind the last", x.put(l, bytes, 0), -13);
        }
        Line y = new Line(0);
        for (int f = 0; f < 8; f++) {
            y.field(RUNNING, 32, 0, 0);
        }
        y.send(0, false);
        y.bend(0, 44, 255);
        y.keep(0, SHORTS, 0);
        due("the last of 45", y.put(0, 44, 0), y.octet(0, 44));
        due("behind the last", y.put(0, 45, 0), -13);
        y.lose(0);
        due("a lost one's", y.keep(0, SHORTS, 0), 0);
        due("a lost one's", y.put(0, 44, 0), y.octet(0, 44));
    }

    private static void keepReferences() {
        Doc.promise(23, "3 a ROW of ints: the numbers of the references of FLOW k, the oldest first;");
        Line x = single(3, FREE, 8);
        due("none", x.keep(0, INTS, 7), 0);
        dueRow(x, 0);
        for (int m = 0; m < 11; m++) {
            x.send(7, false);
        }
        due("four", x.keep(0, INTS, 7), 0);
        dueRow(x, 0, 7, 8, 9, 10);
        x.keep(0, INTS, 7);
        x.send(7, true);
        x.keep(1, INTS, 7);
        dueRow(x, 0, 7, 8, 9, 10);
        dueRow(x, 1, 11);
        due("what is put there changes none", x.squeezer(7, 3), 11);
        x.forget(7, 0);
        x.keep(1, INTS, 7);
        dueRow(x, 1);
    }

    private static void keepContext() {
        Doc.promise(23, "4 a ROW of longs: the HEADER in the CONTEXT of FLOW k: 0.");
        Line x = mixed(3);
        draft(x, 255, 4, 65535, 1048575, 31);
        x.send(3, false);
        x.deliver(0);
        due("keep", x.keep(0, LONGS, 3), 0);
        due("keep", x.keep(1, LONGS, 3), 0);
        dueRow(x, 0, 255, 4, 65535, 1048575, 31);
        due("what is put there changes none", x.known(3, 0, false), 255);
        draft(x, 1, 6, 2, 3, 4);
        x.send(3, true);
        x.deliver(1);
        dueRow(x, 1, 255, 4, 65535, 1048575, 31);
        x.keep(1, LONGS, 3);
        dueRow(x, 1, 1, 6, 2, 3, 4);
    }

    private static void keepRefusals() {
        Doc.promise(23, "-1: no such SHELF, what, k (of 4: without a CONTEXT, too).");
        Line x = withShelves();
        for (int s : OUT_OF_8) {
            for (int what = 0; what <= LONGS; what++) {
                due("SHELF " + s, x.keep(s, what, 0), -1);
            }
        }
        for (int what : new int[] {-1, 5, 6, MIN, MAX}) {
            due("what " + what, x.keep(4, what, 0), -1);
        }
        for (int k : new int[] {-1, 6, 199, 200, MIN, MAX}) {
            due("LETTER " + k, x.keep(4, 1, k), -1);
            due("LETTER " + k, x.keep(4, SHORTS, k), -1);
        }
        for (int k : OUT_OF_8) {
            due("FLOW " + k, x.keep(4, INTS, k), -1);
            due("FLOW " + k, x.keep(4, LONGS, k), -1);
        }
        due("no CONTEXT", x.keep(4, LONGS, 1), -1);
        x.forget(0, 1);
        due("no CONTEXT any more", x.keep(4, LONGS, 0), -1);
        dueRow(x, 4, 10, 11, 12, 13, 14);
    }

    private static void makeZeros() {
        Doc.promise(24, "SHELF s gets a ROW (what 2, 3, 4 as above) of n zeros (n up to 60): 0.");
        for (int what = SHORTS; what <= LONGS; what++) {
            Line x = withShelves();
            for (int n : new int[] {60, 59, 1, 0, 60}) {
                due("n " + n, x.make(7, what, n), 0);
                for (int i = 0; i < n; i++) {
                    due("a zero", x.put(7, i, 30000), 0);
                }
                due("behind the last", x.put(7, n, 1), -13);
            }
            x.make(6, what, 60);
            due("of that kind", x.copy(7, 0, 6, 0, 60), 60);
            due("of that kind", x.copy(what, 0, 7, 0, 5), 5);
            x.make(7, what, 3);
            dueRow(x, 7, 0, 0, 0);
        }
    }

    private static void makeRefusals() {
        Doc.promise(24, " -1;");
        Line x = withShelves();
        for (int s : OUT_OF_8) {
            due("SHELF " + s, x.make(s, SHORTS, 3), -1);
        }
        for (int what : new int[] {-1, 0, 1, 5, 6, MIN, MAX}) {
            due("what " + what, x.make(4, what, 3), -1);
        }
        for (int n : new int[] {61, 62, 1000, MAX}) {
            for (int what = SHORTS; what <= LONGS; what++) {
                due("n " + n, x.make(4, what, n), -1);
            }
        }
        dueRow(x, 4, 10, 11, 12, 13, 14);
    }

    private static void makeBelowZero() {
        Doc.promise(24, "-14: n is below 0.");
        Line x = withShelves();
        for (int what = SHORTS; what <= LONGS; what++) {
            for (int n : new int[] {-1, -60, MIN}) {
                due("n " + n, x.make(4, what, n), -14);
                due("n " + n, x.make(0, what, n), -14);
            }
        }
        due("n 0", x.make(3, SHORTS, 0), 0);
        dueRow(x, 4, 10, 11, 12, 13, 14);
        due("nothing still", x.put(0, 0, 0), -11);
    }

    private static void putBecomes() {
        Doc.promise(25, "Element i (from 0 on) of the ROW on SHELF s becomes v (0 .. 30000): what it was.");
        Line x = withShelves();
        for (int what = SHORTS; what <= LONGS; what++) {
            due("the first", x.put(what, 0, 30000), 10);
            due("the first again", x.put(what, 0, 0), 30000);
            due("the last", x.put(what, 4, 29999), 14);
            dueRow(x, what, 0, 11, 12, 13, 29999);
        }
    }

    private static void putRefusals() {
        Doc.promise(25, "-1, -11, -12, -13.");
        Line x = withShelves();
        for (int s : OUT_OF_8) {
            due("SHELF " + s, x.put(s, 0, 1), -1);
        }
        for (int v : new int[] {-1, 30001, 32768, 65536, MIN, MAX}) {
            due("v " + v, x.put(2, 0, v), -1);
        }
        due("nothing", x.put(0, 0, 1), -11);
        due("a LETTER", x.put(1, 0, 1), -12);
        for (int what = SHORTS; what <= LONGS; what++) {
            for (int i : new int[] {-1, 5, 6, 59, 60, MIN, MAX}) {
                due("place " + i, x.put(what, i, 1), -13);
            }
            dueRow(x, what, 10, 11, 12, 13, 14);
        }
    }

    private static void copyComes() {
        Doc.promise(26, "n elements of the ROW on SHELF s, from place i on, come to the ROW on SHELF t, from place j on");
        for (int what = SHORTS; what <= LONGS; what++) {
            Line x = withShelves();
            x.make(5, what, 7);
            due("all", x.copy(what, 0, 5, 0, 5), 5);
            dueRow(x, 5, 10, 11, 12, 13, 14, 0, 0);
            due("to the last places", x.copy(what, 1, 5, 3, 4), 4);
            dueRow(x, 5, 0, 0, 0, 11, 12, 13, 14);
            due("one", x.copy(what, 4, 5, 6, 1), 1);
            dueRow(x, 5, 0, 0, 0, 0, 0, 0, 14);
            due("none", x.copy(what, 2, 5, 2, 0), 0);
            due("none, behind the last", x.copy(what, 5, 5, 7, 0), 0);
            dueRow(x, 5, 0, 0, 0, 0, 0, 0, 0);
            dueRow(x, what, 10, 11, 12, 13, 14);
        }
    }

    private static void copyAsTheyWere() {
        Doc.promise(26, "(as they all were before): n.");
        for (int what = SHORTS; what <= LONGS; what++) {
            Line x = withShelves();
            due("upwards over itself", x.copy(what, 0, what, 1, 4), 4);
            dueRow(x, what, 10, 10, 11, 12, 13);
            Line y = withShelves();
            due("downwards over itself", y.copy(what, 1, what, 0, 4), 4);
            dueRow(y, what, 11, 12, 13, 14, 14);
            Line z = withShelves();
            due("onto itself", z.copy(what, 0, what, 0, 5), 5);
            dueRow(z, what, 10, 11, 12, 13, 14);
        }
    }

    private static void copyNoSuchShelf() {
        Doc.promise(26, "-1: no such SHELF;");
        Line x = withShelves();
        for (int s : OUT_OF_8) {
            due("SHELF " + s, x.copy(s, 0, 2, 0, 1), -1);
            due("to SHELF " + s, x.copy(2, 0, s, 0, 1), -1);
            due("SHELF " + s + " to itself", x.copy(s, 0, s, 0, 0), -1);
        }
    }

    private static void copyOfNothing() {
        Doc.promise(26, "-11: of either;");
        Line x = withShelves();
        due("of s", x.copy(0, 0, 2, 0, 1), -11);
        due("of t", x.copy(2, 0, 0, 0, 1), -11);
        due("of both", x.copy(0, 0, 7, 0, 1), -11);
        due("of t, none to come", x.copy(2, 0, 0, 0, 0), -11);
        dueRow(x, 2, 10, 11, 12, 13, 14);
    }

    private static void copyOfOtherKinds() {
        Doc.promise(26, "-12: one is no ROW, or they are not of one kind;");
        Line x = withShelves();
        for (int s = 1; s <= LONGS; s++) {
            for (int t = 1; t <= LONGS; t++) {
                int answer = s == t && s != 1 ? 1 : -12;
                due("SHELF " + s + " to " + t, x.copy(s, 0, t, 0, 1), answer);
            }
        }
        x.keep(5, 1, 2);
        due("LETTER to LETTER", x.copy(1, 0, 5, 0, 0), -12);
        for (int what = SHORTS; what <= LONGS; what++) {
            dueRow(x, what, 10, 11, 12, 13, 14);
        }
    }

    private static void copyBeyond() {
        Doc.promise(26, "-13: n, i or j is below 0, or beyond either's end.");
        int[][] calls = {{0, 0, -1}, {-1, 0, 1}, {0, -1, 1}, {-1, 0, 0}, {0, -1, 0}, {0, 0, MIN}, {MIN, 0, 1}, {0, MIN, 1},
            {0, 0, 4}, {1, 0, 5}, {5, 0, 1}, {3, 0, 3}, {0, 3, 1}, {0, 2, 2}, {6, 0, 0}, {0, 4, 0}, {0, 0, MAX}, {MAX, 0, 1},
            {0, MAX, 1}, {MAX, MAX, MAX}, {1, 1, MAX}, {MAX, 0, 0}, {0, MAX, 0}, {MIN, MIN, MIN}, {-1, -1, 2}, {2, 2, -1}};
        for (int what = SHORTS; what <= LONGS; what++) {
            Line x = withShelves();
            x.make(6, what, 3);
            for (int[] c : calls) {
                String call = "copy from " + c[0] + " of 5 to " + c[1] + " of 3, " + c[2];
                due(call, x.copy(what, c[0], 6, c[1], c[2]), -13);
            }
            dueRow(x, 6, 0, 0, 0);
            due("up to both ends", x.copy(what, 2, 6, 0, 3), 3);
            dueRow(x, 6, 12, 13, 14);
        }
    }

    private static void worths() {
        Doc.promise(27, "The WORTH of the LETTER on SHELF s: of all: bytes * 10 + KIND as made; of PART and SHORT 3 more; of"
                + " SHORT twice that; of ACK, NACK, STALE: 1 more; of NACK, STALE 5 more than that; of STALE that times 3.");
        for (int width : new int[] {4, 8, 32}) {
            Line x = withLetters(width);
            int[] more = {0, 3, 3, 1, 6, 6};
            int[] times = {1, 1, 2, 1, 1, 3};
            for (int l = 0; l < 6; l++) {
                x.keep(l, 1, l);
                int worth = (x.look(l, 3) * 10 + l + more[l]) * times[l];
                due("worth of KIND " + l, x.worth(l), worth);
                x.bend(l, 0, 224);
                x.keep(l, 1, l);
                due("KIND as made", x.worth(l), worth);
            }
        }
        Line y = withLetters(8);
        int[] worths = {60, 64, 110, 44, 50, 153};
        for (int l = 0; l < 6; l++) {
            y.keep(7, 1, l);
            due("worth of KIND " + l, y.worth(7), worths[l]);
        }
    }

    private static void worthRefusals() {
        Doc.promise(27, "-1, -11, -12.");
        Line x = withShelves();
        for (int s : OUT_OF_8) {
            due("SHELF " + s, x.worth(s), -1);
        }
        due("nothing", x.worth(0), -11);
        for (int what = SHORTS; what <= LONGS; what++) {
            due("a ROW", x.worth(what), -12);
            x.make(what, what, 0);
            due("an empty ROW", x.worth(what), -12);
        }
    }

    private static void tosses() {
        Doc.promise(28, "The FAILURE of the LETTER on SHELF s is thrown, and caught: its KIND as made.");
        Line x = withLetters(8);
        for (int kind : new int[] {PART, SHORT, NACK, STALE}) {
            x.keep(7, 1, kind);
            due("toss of KIND " + kind, x.toss(7), kind);
            due("and again", x.toss(7), kind);
            x.bend(kind, 0, 224);
            x.keep(7, 1, kind);
            due("KIND as made", x.toss(7), kind);
        }
    }

    private static void tossRefusals() {
        Doc.promise(28, "-1, -11, -12;");
        Line x = withShelves();
        for (int s : OUT_OF_8) {
            due("SHELF " + s, x.toss(s), -1);
        }
        due("nothing", x.toss(0), -11);
        for (int what = SHORTS; what <= LONGS; what++) {
            due("a ROW", x.toss(what), -12);
        }
    }

    private static void tossWithoutFailure() {
        Doc.promise(28, "-15: WHOLE and ACK have none.");
        Line x = withLetters(8);
        x.keep(0, 1, 0);
        x.keep(1, 1, 3);
        due("WHOLE", x.toss(0), -15);
        due("ACK", x.toss(1), -15);
        x.bend(0, 0, 32);
        x.keep(2, 1, 0);
        due("WHOLE as made", x.toss(2), -15);
        due("it stays there", x.worth(0), 60);
    }
}
