/** The sentences about FIELDS, values, FLOWS and W: a test for each. */
final class PlanSentences extends Scene {
    private PlanSentences() {
    }

    static void all() {
        fieldsAsTheyCome();
        widths();
        values();
        reckonsModulo();
        kinds();
        closedByAnyLetter();
        notClosedByRefusedCalls();
        headerHasAValueForEachField();
        flows();
        window();
        newObject();
        newDraft();
        anyW();
        fieldAnswersItsNumber();
        tiedDifference();
        tiedToAnyEarlierField();
        clockedScale();
        aAndBDontMatter();
        fieldOutOfRange();
        ninthField();
        fieldInClosedPlan();
        setTakesLowestBits();
        setNoSuchField();
    }

    private static void fieldsAsTheyCome() {
        Doc.terms("THE PLAN: FIELDS 0 .. 7, as they come;");
        Line x = new Line(0);
        for (int f = 0; f < 8; f++) {
            due("a refused one takes no number", x.field(STILL, 0, 0, 0), -1);
            due("field", x.field(f % 2 == 0 ? STILL : FREE, 1 + f, 0, 0), f);
            due("count(0)", x.count(0), f + 1);
        }
        due("a ninth", x.field(STILL, 1, 0, 0), -2);
        due("count(0)", x.count(0), 8);
        for (int f = 0; f < 8; f++) {
            x.set(f, -1);
            due("WIDTH of FIELD " + f, x.set(f, 0), (1 << (1 + f)) - 1);
        }
    }

    private static void widths() {
        Doc.terms("each has a KIND, a WIDTH (1 to 32 bits)");
        for (int kind = STILL; kind <= FREE; kind++) {
            Line x = single(0, STILL, 8);
            for (int width : new int[] {0, -1, -32, 33, 34, 64, MIN, MAX}) {
                due("KIND " + kind + ", WIDTH " + width, x.field(kind, width, 0, 1), -1);
            }
            due("KIND " + kind + ", WIDTH 1", x.field(kind, 1, 0, 1), 1);
            due("KIND " + kind + ", WIDTH 32", x.field(kind, 32, 0, 1), 2);
            x.send(0, false);
            int strides = kind == RUNNING || kind == CLOCKED ? 16 : 0;
            due("bits of WHOLE", x.look(0, 4), 26 + 8 + 1 + 32 + strides);
        }
    }

    private static void values() {
        Doc.terms("and values 0 .. 2^WIDTH - 1,");
        for (int width = 1; width <= 32; width++) {
            long top = (1L << width) - 1;
            Line x = single(0, FREE, width);
            due("at first", x.set(0, top), 0);
            due("the highest", x.set(0, top + 1), top);
            due("one above", x.set(0, -1), 0);
            due("one below 0", x.set(0, top + 2), top);
            due("two above", x.set(0, top), 1);
            x.send(0, false);
            x.send(0, false);
            due("deliver", x.deliver(0), TAKEN);
            due("WIDTH " + width + ", got", x.got(0), top);
            due("deliver", x.deliver(1), TAKEN);
            due("WIDTH " + width + ", got", x.got(0), top);
            due("WIDTH " + width + ", known", x.known(0, 0, false), top);
        }
    }

    /** From the highest value on by 255 and by 255 times 1000, so that each FIELD goes over its end. */
    private static void reckonsModulo() {
        Doc.terms("and reckons modulo 2^WIDTH.");
        for (int width = 1; width <= 32; width++) {
            long size = 1L << width;
            Line x = new Line(0);
            x.field(RUNNING, width, 0, 0);
            x.field(CLOCKED, width, 0, 1000);
            x.field(TIED, width, 1, 1);
            x.stride(0, 0, 255);
            x.stride(0, 1, 255);
            for (int m = 0; m < 3; m++) {
                long running = (size - 1 + 255 * m) % size;
                long clocked = (size - 1 + 255_000 * m) % size;
                long tied = (clocked + 1) % size;
                draft(x, running, clocked, tied);
                x.send(0, false);
                due("WIDTH " + width + ", KIND", x.look(m, 0), m == 0 ? WHOLE : SHORT);
                due("WIDTH " + width + ", bits", x.look(m, 4), m == 0 ? 26 + 3 * width + 16 : 26 + 12 + 8);
                due("deliver", x.deliver(m), TAKEN);
                dueGot(x, running, clocked, tied);
            }
        }
    }

    private static void kinds() {
        Doc.terms("KINDS: 0 STILL; 1 TIED (to an earlier FIELD, with a DIFFERENCE); 2 RUNNING; 3 CLOCKED (with a SCALE);"
                + " 4 FREE.");
        int[] bitsOfShort = {0, 0, 6, 6, 4};
        for (int kind = STILL; kind <= FREE; kind++) {
            Line x = single(0, STILL, 4);
            for (int none : new int[] {-1, 5, 6, MIN, MAX}) {
                due("KIND " + none, x.field(none, 4, 0, 1), -1);
            }
            due("KIND " + kind, x.field(kind, 4, 0, 1), 1);
            int stride = kind == RUNNING || kind == CLOCKED ? 1 : -1;
            due("STRIDE of KIND " + kind, x.stride(0, 1, 0), stride);
            draft(x, 2, 3);
            x.send(0, false);
            x.send(0, false);
            due("SHORT", x.look(1, 0), SHORT);
            due("bits of KIND " + kind, x.look(1, 4), 26 + 8 + bitsOfShort[kind]);
        }
    }

    private static void closedByAnyLetter() {
        Doc.terms("The PLAN is closed as soon as a letter was made.");
        Line x = single(0, FREE, 4);
        due("open", x.field(STILL, 8, 0, 0), 1);
        due("send", x.send(0, false), 0);
        due("closed by a WHOLE letter", x.field(STILL, 8, 0, 0), -3);
        x.lose(0);
        due("closed still, when it is lost", x.field(STILL, 8, 0, 0), -3);
        due("count(0)", x.count(0), 2);
        Line y = single(0, FREE, 4);
        due("nack", y.nack(3), 0);
        due("closed by a STALE letter", y.field(STILL, 8, 0, 0), -3);
        due("count(0)", y.count(0), 1);
        Line z = new Line(0);
        due("nack", z.nack(3), 0);
        due("closed before any FIELD", z.field(STILL, 8, 0, 0), -3);
        due("send", z.send(0, false), -3);
    }

    private static void notClosedByRefusedCalls() {
        Doc.terms("closed as soon as a letter was made");
        Line x = new Line(0);
        due("send without FIELDS", x.send(0, true), -3);
        due("ack without a CONTEXT", x.ack(0), -3);
        due("nack of FLOW 8", x.nack(8), -1);
        due("twice of none", x.twice(0), -1);
        due("open", x.field(RUNNING, 8, 0, 0), 0);
        due("send of FLOW 8", x.send(8, true), -1);
        x.stride(0, 0, 3);
        x.set(0, 9);
        x.forget(0, 0);
        due("open", x.field(STILL, 8, 0, 0), 1);
    }

    private static void headerHasAValueForEachField() {
        Doc.terms("A HEADER has a value for each FIELD.");
        for (int fields = 1; fields <= 8; fields++) {
            Line x = new Line(0);
            for (int f = 0; f < fields; f++) {
                x.field(FREE, 8, 0, 0);
                x.set(f, 100 + f);
            }
            x.send(0, false);
            due("bits", x.look(0, 4), 26 + 8 * fields);
            x.deliver(0);
            for (int f = 0; f < fields; f++) {
                due("got", x.got(f), 100 + f);
            }
            due("behind the last", x.got(fields), -1);
            x.keep(0, 4, 0);
            due("the last of its ROW", x.put(0, fields - 1, 0), 100 + fields - 1);
            due("behind its ROW", x.put(0, fields, 0), -13);
        }
    }

    private static void flows() {
        Doc.terms("Packets are of FLOWS 0 .. 7.");
        Line x = single(0, FREE, 8);
        for (int flow = 0; flow < 8; flow++) {
            x.set(0, 50 + flow);
            due("send", x.send(flow, false), flow);
            due("FLOW of the letter", x.look(flow, 1), flow);
        }
        for (int flow = 0; flow < 8; flow++) {
            dueSqueezer(x, flow, 1, 1, 1, 0, 0);
            due("deliver", x.deliver(flow), TAKEN);
            due("known", x.known(flow, 0, false), 50 + flow);
        }
        for (int flow : OUT_OF_8) {
            due("FLOW " + flow, x.send(flow, false), -1);
        }
    }

    private static void window() {
        Doc.terms("W is 1 + (w modulo 8, from 0 on), w as told to the constructor.");
        for (int w = -40; w <= 40; w++) {
            due("W of " + w, new Line(w).count(2), 1 + (w + 40) % 8);
        }
        due("W of MAX", new Line(MAX).count(2), 8);
        due("W of MAX - 7", new Line(MAX - 7).count(2), 1);
        due("W of MIN", new Line(MIN).count(2), 1);
        due("W of MIN + 1", new Line(MIN + 1).count(2), 2);
        int[] ws = {-1, 8, MIN, MAX};
        int[] references = {8, 1, 1, 8};
        for (int i = 0; i < ws.length; i++) {
            Line x = single(ws[i], FREE, 8);
            for (int m = 0; m < 10; m++) {
                x.send(0, false);
            }
            due("references with w " + ws[i], x.squeezer(0, 2), references[i]);
        }
    }

    private static void newObject() {
        Doc.promise(1, "No FIELDS, no LETTERS;");
        Line x = new Line(5);
        due("FIELDS", x.count(0), 0);
        due("LETTERS", x.count(1), 0);
        due("lost", x.count(3), 0);
        due("set", x.set(0, 0), -1);
        due("got", x.got(0), -1);
        due("known", x.known(0, 0, false), -1);
        due("deliver", x.deliver(0), -1);
        due("octet", x.octet(0, 0), -1);
        due("look", x.look(0, 0), -1);
        due("keep", x.keep(0, 1, 0), -1);
        due("spent", x.spent(0, 0, 0), 0);
    }

    private static void newDraft() {
        Doc.promise(1, "all values of the DRAFT (a HEADER) are 0.");
        Line x = new Line(5);
        for (int f = 0; f < 8; f++) {
            x.field(f % 2 == 0 ? FREE : RUNNING, 32, 0, 0);
        }
        x.send(0, false);
        x.deliver(0);
        for (int f = 0; f < 8; f++) {
            due("got", x.got(f), 0);
            due("set", x.set(f, 1), 0);
        }
    }

    private static void anyW() {
        Doc.promise(1, "w: any.");
        for (int w : new int[] {MIN, MIN + 7, -9, -8, -1, 0, 7, 8, MAX - 1, MAX}) {
            Line x = single(w, RUNNING, 8);
            due("send", x.send(0, false), 0);
            due("deliver", x.deliver(0), TAKEN);
        }
    }

    private static void fieldAnswersItsNumber() {
        Doc.promise(2, "A FIELD comes: its number.");
        Line x = new Line(0);
        for (int f = 0; f < 8; f++) {
            due("field", x.field(f % 5 == 1 ? FREE : f % 5, 8, 0, 1), f);
        }
    }

    private static void tiedDifference() {
        Doc.promise(2, "TIED: a is the FIELD, b the DIFFERENCE (any; modulo 2^WIDTH);");
        int[] differences = {0, 1, -1, 255, 256, 257, -256, MIN, MIN + 1, MAX};
        for (int width : new int[] {1, 8, 31, 32}) {
            long size = 1L << width;
            for (int b : differences) {
                Line x = single(0, RUNNING, 32);
                due("b " + b, x.field(TIED, width, 0, b), 1);
                for (int m = 0; m < 2; m++) {
                    long running = (4294967295L + m) % 4294967296L;
                    long tied = ((running + b) % size + size) % size;
                    draft(x, running, tied);
                    x.send(0, false);
                    due("deliver", x.deliver(m), TAKEN);
                    due("WIDTH " + width + ", b " + b, x.got(1), tied);
                }
                due("SHORT", x.look(1, 0), SHORT);
                x.set(1, x.got(1) + 1);
                x.send(0, false);
                due("not by the DIFFERENCE", x.look(2, 0), PART);
            }
        }
        Line y = single(0, FREE, 8);
        y.field(TIED, 9, 0, 1);
        draft(y, 255, 256);
        y.send(0, false);
        y.send(0, false);
        due("modulo its own WIDTH, not the other's", y.look(1, 0), SHORT);
        y.deliver(0);
        y.deliver(1);
        dueGot(y, 255, 256);
    }

    private static void tiedToAnyEarlierField() {
        Doc.promise(2, "a (no earlier FIELD)");
        Line x = new Line(0);
        due("TIED as the first", x.field(TIED, 8, 0, 0), -1);
        for (int f = 0; f < 8; f++) {
            for (int a : new int[] {-1, f, f + 1, 8, MIN, MAX}) {
                due("FIELD " + f + " TIED to " + a, x.field(TIED, 8, a, 0), -1);
            }
            due("FIELD", f == 0 ? x.field(FREE, 8, 0, 0) : x.field(TIED, 8, f - 1, 1), f);
        }
        draft(x, 250, 251, 252, 253, 254, 255, 0, 1);
        x.send(0, false);
        x.send(0, false);
        due("each is TIED to the one before", x.look(1, 0), SHORT);
        due("bits", x.look(1, 4), 26 + 8 + 8);
        Line y = single(0, FREE, 8);
        y.field(FREE, 8, 0, 0);
        due("TIED to the first", y.field(TIED, 8, 0, 1), 2);
        draft(y, 7, 90, 8);
        y.send(0, false);
        y.send(0, false);
        due("not to the last", y.look(1, 0), SHORT);
    }

    private static void clockedScale() {
        Doc.promise(2, "CLOCKED: b is the SCALE, 1 .. 1000;");
        Line x = new Line(0);
        for (int b : new int[] {0, -1, -1000, 1001, MIN, MAX}) {
            due("SCALE " + b, x.field(CLOCKED, 32, 0, b), -1);
        }
        due("SCALE 1", x.field(CLOCKED, 32, 0, 1), 0);
        due("SCALE 1000", x.field(CLOCKED, 32, 0, 1000), 1);
        x.send(0, false);
        draft(x, 1, 1000);
        x.send(0, false);
        due("n by SCALE 1", x.prove(1, 0, 0), 0);
        due("n by SCALE 1000", x.prove(1, 1, 0), 0);
    }

    private static void aAndBDontMatter() {
        Doc.promise(2, "else a and b don't matter.");
        for (int any : new int[] {MIN, -1, 0, 1001, MAX}) {
            Line x = new Line(0);
            due("STILL", x.field(STILL, 8, any, any), 0);
            due("RUNNING", x.field(RUNNING, 8, any, any), 1);
            due("FREE", x.field(FREE, 8, any, any), 2);
            due("a of CLOCKED", x.field(CLOCKED, 8, any, 2), 3);
            draft(x, 5, 9, 3, 4);
            x.send(0, false);
            draft(x, 5, 10, 7, 6);
            x.send(0, false);
            due("bits", x.look(1, 4), 26 + 6 + 8 + 6 + 8);
            x.deliver(0);
            x.deliver(1);
            dueGot(x, 5, 10, 7, 6);
        }
    }

    private static void fieldOutOfRange() {
        Doc.promise(2, "-1: KIND, WIDTH, a (no earlier FIELD) or b;");
        Line x = single(0, STILL, 8);
        due("KIND 5", x.field(5, 8, 0, 1), -1);
        due("KIND -1", x.field(-1, 8, 0, 1), -1);
        due("WIDTH 0", x.field(FREE, 0, 0, 1), -1);
        due("WIDTH 33", x.field(FREE, 33, 0, 1), -1);
        due("a of TIED", x.field(TIED, 8, 1, 1), -1);
        due("b of CLOCKED", x.field(CLOCKED, 8, 0, 1001), -1);
        due("count(0)", x.count(0), 1);
    }

    private static void ninthField() {
        Doc.promise(2, "-2: there are 8;");
        Line x = new Line(0);
        for (int f = 0; f < 8; f++) {
            due("field", x.field(STILL, 1, 0, 0), f);
        }
        for (int kind = STILL; kind <= FREE; kind++) {
            due("a ninth of KIND " + kind, x.field(kind, 1, 7, 1), -2);
        }
        due("count(0)", x.count(0), 8);
        due("set of a ninth", x.set(8, 1), -1);
    }

    private static void fieldInClosedPlan() {
        Doc.promise(2, "-3: the PLAN is closed.");
        Line x = single(0, RUNNING, 1);
        x.send(0, false);
        for (int kind = STILL; kind <= FREE; kind++) {
            due("KIND " + kind, x.field(kind, 1, 0, 1), -3);
        }
        due("count(0)", x.count(0), 1);
    }

    private static void setTakesLowestBits() {
        Doc.promise(3, "A value of the DRAFT, its lowest WIDTH bits: what it was.");
        Line x = new Line(0);
        x.field(STILL, 1, 0, 0);
        x.field(STILL, 5, 0, 0);
        x.field(STILL, 31, 0, 0);
        x.field(STILL, 32, 0, 0);
        long[] told = {Long.MAX_VALUE, Long.MIN_VALUE, -1, -2, 1L << 32, (1L << 32) + 3, 0x123456789abcdefL, 31, 32, 33};
        int[] widths = {1, 5, 31, 32};
        for (int f = 0; f < 4; f++) {
            long was = 0;
            for (long value : told) {
                due("set(" + f + ", " + value + ")", x.set(f, value), was);
                was = value & ((1L << widths[f]) - 1);
            }
            due("set(" + f + ", 0)", x.set(f, 0), was);
        }
    }

    private static void setNoSuchField() {
        Doc.promise(3, "-1: no such FIELD.");
        Line x = single(0, STILL, 8);
        x.set(0, 7);
        for (int field : new int[] {-1, 1, 7, 8, MIN, MAX}) {
            due("FIELD " + field, x.set(field, 9), -1);
        }
        due("FIELD 0", x.set(0, 7), 7);
    }
}
