/** For each promise of the document, by its number: ordinary calls, the edges it names, wrong inputs. */
public final class PromiseTest extends Scene {
    public static void main(String[] args) {
        promise01NewObject();
        promise02Field();
        promise02PlanCloses();
        promise03Set();
        promise04Stride();
        promise05SendWholeShortPart();
        promise05SendRefusals();
        promise05WhichKind();
        promise05TiesOfTies();
        promise05References();
        promise05RoundsTurn();
        promise05LeastBits();
        promise05WideFields();
        promise06Ack();
        promise07Nack();
        promise08BrokenWhole();
        promise08BrokenPartAndShort();
        promise08OtherOutcomes();
        promise08OrderOfOutcomes();
        promise08FarEdge();
        promise08Answers();
        promise08Flows();
        promise09Lose();
        promise10Twice();
        promise11Bend();
        promise12Octet();
        promise13Look();
        promise14Prove();
        promise15to17Got();
        promise18Context();
        promise19Known();
        promise20Squeezer();
        promise21Forget();
        promise22Spent();
        promise23Keep();
        promise24Make();
        promise25Put();
        promise26Copy();
        promise27Worth();
        promise28Toss();
        promise29Count();
        Due.finish();
    }

    private static void promise01NewObject() {
        Due.about("1");
        int[] ws = {0, 1, 7, 8, 9, 15, -1, -7, -8, -9, MAX, MIN, MIN + 1};
        int[] windows = {1, 2, 8, 1, 2, 8, 8, 2, 1, 8, 8, 1, 2};
        for (int i = 0; i < ws.length; i++) {
            due("count(2) of " + ws[i], new Line(ws[i]).count(2), windows[i]);
        }
        Line x = new Line(3);
        due("count(0)", x.count(0), 0);
        due("count(1)", x.count(1), 0);
        due("count(3)", x.count(3), 0);
        due("deliver(0)", x.deliver(0), -1);
        due("set(0, 1)", x.set(0, 1), -1);
        for (int f = 0; f < 8; f++) {
            due("field", x.field(STILL, 32, 0, 0), f);
        }
        for (int f = 0; f < 8; f++) {
            due("set(" + f + ", 0)", x.set(f, 0), 0);
        }
        for (int flow = 0; flow < 8; flow++) {
            due("squeezer 0", x.squeezer(flow, 0), 0);
            due("squeezer 1", x.squeezer(flow, 1), 0);
            due("squeezer 2", x.squeezer(flow, 2), 0);
            due("squeezer 3", x.squeezer(flow, 3), -2);
            due("squeezer 4", x.squeezer(flow, 4), 1);
            due("context 0", x.context(flow, 0), 0);
        }
        for (int s = 0; s < 8; s++) {
            due("worth", x.worth(s), -11);
        }
    }

    private static void promise02Field() {
        Due.about("2");
        Line x = new Line(0);
        due("kind -1", x.field(-1, 8, 0, 1), -1);
        due("kind 5", x.field(5, 8, 0, 1), -1);
        due("width 0", x.field(STILL, 0, 0, 1), -1);
        due("width 33", x.field(STILL, 33, 0, 1), -1);
        due("width MIN", x.field(FREE, MIN, 0, 1), -1);
        due("TIED to none", x.field(TIED, 8, 0, 0), -1);
        due("STILL, a and b any", x.field(STILL, 1, MIN, MAX), 0);
        due("TIED to itself", x.field(TIED, 8, 1, 0), -1);
        due("TIED below 0", x.field(TIED, 8, -1, 0), -1);
        due("TIED", x.field(TIED, 32, 0, MIN), 1);
        due("SCALE 0", x.field(CLOCKED, 8, 0, 0), -1);
        due("SCALE 1001", x.field(CLOCKED, 8, 0, 1001), -1);
        due("SCALE -1", x.field(CLOCKED, 8, 0, -1), -1);
        due("SCALE 1000", x.field(CLOCKED, 8, -5, 1000), 2);
        due("SCALE 1", x.field(CLOCKED, 8, 99, 1), 3);
        due("RUNNING", x.field(RUNNING, 32, -1, -1), 4);
        due("FREE", x.field(FREE, 5, -1, -1), 5);
        due("TIED to the last", x.field(TIED, 3, 5, 0), 6);
        due("count(0)", x.count(0), 7);
        due("8th", x.field(STILL, 8, 0, 0), 7);
        due("9th", x.field(STILL, 8, 0, 0), -2);
        due("9th, wrong", x.field(STILL, 0, 0, 0), -1);
        due("9th, TIED to none", x.field(TIED, 8, 8, 0), -1);
        due("count(0)", x.count(0), 8);
        due("send", x.send(0, false), 0);
        due("9th, closed", x.field(STILL, 8, 0, 0), -2);
    }

    private static void promise02PlanCloses() {
        Due.about("2 closes");
        Line x = new Line(0);
        due("field", x.field(STILL, 8, 0, 0), 0);
        due("send", x.send(0, false), 0);
        due("field", x.field(STILL, 8, 0, 0), -3);
        due("field, wrong", x.field(STILL, 33, 0, 0), -1);
        due("count(0)", x.count(0), 1);
        Line y = new Line(0);
        due("refused ack", y.ack(0), -3);
        due("refused send", y.send(0, true), -3);
        due("nack", y.nack(0), 0);
        due("field behind a STALE letter", y.field(STILL, 8, 0, 0), -3);
        due("count(0)", y.count(0), 0);
    }

    private static void promise03Set() {
        Due.about("3");
        Line x = new Line(0);
        x.field(STILL, 1, 0, 0);
        x.field(FREE, 32, 0, 0);
        x.field(RUNNING, 12, 0, 0);
        due("set(0, 3)", x.set(0, 3), 0);
        due("set(0, -2)", x.set(0, -2), 1);
        due("set(0, 0)", x.set(0, 0), 0);
        due("set(1, -1)", x.set(1, -1), 0);
        due("set(1, 2^32 + 5)", x.set(1, (1L << 32) + 5), 4294967295L);
        due("set(1, MIN)", x.set(1, Long.MIN_VALUE), 5);
        due("set(1, 0)", x.set(1, 0), 0);
        due("set(2, 4096 + 77)", x.set(2, 4096 + 77), 0);
        due("set(2, 0)", x.set(2, 0), 77);
        due("set(3, 1)", x.set(3, 1), -1);
        due("set(-1, 1)", x.set(-1, 1), -1);
        due("set(MAX, 1)", x.set(MAX, 1), -1);
        x.send(0, false);
        due("set when closed", x.set(2, 9), 0);
        due("set", x.set(2, 9), 9);
    }

    private static void promise04Stride() {
        Due.about("4");
        Line x = mixed(3);
        due("STILL", x.stride(0, 0, 1), -1);
        due("TIED", x.stride(0, 1, 1), -1);
        due("FREE", x.stride(0, 4, 1), -1);
        due("no FIELD", x.stride(0, 5, 1), -1);
        due("FIELD -1", x.stride(0, -1, 1), -1);
        for (int flow : OUT_OF_8) {
            due("FLOW " + flow, x.stride(flow, 2, 1), -1);
        }
        due("s 256", x.stride(0, 2, 256), -1);
        due("s -1", x.stride(0, 2, -1), -1);
        due("first", x.stride(0, 2, 255), 1);
        due("again", x.stride(0, 2, 0), 255);
        due("again", x.stride(0, 2, 4), 0);
        due("another FLOW", x.stride(1, 2, 9), 1);
        due("another FIELD", x.stride(0, 3, 7), 1);
        x.send(0, false);
        due("owes none", x.squeezer(0, 4), 0);
        due("refused", x.stride(0, 2, 256), -1);
        due("owes none", x.squeezer(0, 4), 0);
        due("the same", x.stride(0, 2, 4), 4);
        due("owes", x.squeezer(0, 4), 1);
        due("references stay", x.squeezer(0, 2), 1);
        due("send", x.send(0, false), 1);
        due("WHOLE", x.look(1, 0), 0);
        due("owes none", x.squeezer(0, 4), 0);
    }

    private static void promise05SendWholeShortPart() {
        Due.about("5 bits");
        Line x = mixed(3);
        x.stride(5, 2, 2);
        x.stride(5, 3, 3);
        draft(x, 7, 12, 1000, 5000, 19);
        due("send", x.send(5, false), 0);
        dueBits(x, 0, "000 101 0000000000000000 0001 00000111 00001100 0000001111101000 00000010"
                + " 00000001001110001000 00000011 10011", true);
        draft(x, 7, 12, 1002, 5030, 3);
        due("send", x.send(5, false), 1);
        dueBits(x, 1, "010 101 0000000000000001 0001 000000 000000 00011 "
                + sum(7, 12, 1002, 5030, 3), false);
        draft(x, 7, 12, 1010, 5060, 3);
        due("send", x.send(5, false), 2);
        dueBits(x, 2, "010 101 0000000000000010 0001 000100 0010 000000 00011 "
                + sum(7, 12, 1010, 5060, 3), false);
        draft(x, 8, 12, 1012, 5090, 31);
        due("send", x.send(5, false), 3);
        dueBits(x, 3, "001 101 0000000000000011 0001 1 00001000 1 00001100 1 0000001111110100 0 11111 "
                + sum(8, 12, 1012, 5090, 31), false);
        draft(x, 8, 13, 1012, 5090, 31);
        due("send, wanted", x.send(5, true), 4);
        dueBits(x, 4, "000 101 0000000000000100 0010 00001000 00001101 0000001111110100 00000010"
                + " 00000001001111100010 00000011 11111", true);
        for (int l = 0; l < 5; l++) {
            due("deliver", x.deliver(l), 0);
        }
        due("SUM by hand", Integer.parseInt(sum(7, 12), 2), (((17 * 31) + 7) * 31 + 12) % 256);
    }

    private static void promise05SendRefusals() {
        Due.about("5 refusals");
        Line x = new Line(0);
        for (int flow : OUT_OF_8) {
            due("FLOW " + flow, x.send(flow, true), -1);
        }
        due("no FIELDS", x.send(0, true), -3);
        due("NUMBER", x.squeezer(0, 0), 0);
        x.field(RUNNING, 8, 0, 0);
        for (int l = 0; l < 200; l++) {
            due("send", x.send(l % 2, false), l);
        }
        due("NUMBER", x.squeezer(0, 0), 100);
        due("201st", x.send(0, true), -2);
        due("201st, FLOW 8", x.send(8, true), -1);
        due("NUMBER", x.squeezer(0, 0), 100);
        due("ROUND", x.squeezer(0, 1), 1);
        due("count(1)", x.count(1), 200);
        Line y = new Line(0);
        for (int l = 0; l < 200; l++) {
            due("nack", y.nack(0), l);
        }
        due("full and no FIELDS", y.send(0, false), -2);
    }

    private static void promise05WhichKind() {
        Due.about("5 kinds");
        Line x = new Line(1);
        x.field(FREE, 8, 0, 0);
        x.field(TIED, 4, 0, -3);
        x.field(STILL, 8, 0, 0);
        draft(x, 20, 1, 6);
        due("send", x.send(0, false), 0);
        due("first is WHOLE", x.look(0, 0), 0);
        draft(x, 200, 5, 6);
        x.send(0, false);
        due("TIED as given, FREE any", x.look(1, 0), 2);
        due("bits", x.look(1, 4), 26 + 8 + 8);
        draft(x, 200, 4, 6);
        x.send(0, false);
        due("TIED not as given", x.look(2, 0), 1);
        draft(x, 200, 5, 7);
        x.send(0, false);
        due("STILL not as given", x.look(3, 0), 1);
        x.send(0, false);
        due("one reference gives another value", x.look(4, 0), 1);
        x.send(0, false);
        due("both give it", x.look(5, 0), 2);
        draft(x, 200, 5, 6);
        x.send(0, false);
        draft(x, 200, 5, 7);
        x.send(0, false);
        due("only the older one gives it", x.look(7, 0), 1);
        due("forget", x.forget(0, 0), 1);
        x.send(0, false);
        due("owed", x.look(8, 0), 0);
        x.send(0, true);
        due("wanted", x.look(9, 0), 0);
        for (int l = 0; l < 10; l++) {
            due("deliver " + l, x.deliver(l), 0);
        }
    }

    /** TIED to a TIED, a RUNNING and a wider FIELD; the DIFFERENCE is modulo 2^WIDTH. */
    private static void promise05TiesOfTies() {
        Due.about("5 ties");
        Line x = new Line(1);
        x.field(STILL, 8, 0, 0);
        x.field(RUNNING, 16, 0, 0);
        x.field(TIED, 4, 1, -1);
        x.field(TIED, 32, 2, MIN);
        x.field(TIED, 1, 3, MAX);
        for (int m = 0; m < 32; m++) {
            long running = 65520 + m;
            long tied = (running + 15) % 16;
            draft(x, 9, running, tied, 2147483648L + tied, (tied + 1) % 2);
            x.send(0, false);
            due("KIND", x.look(m, 0), m == 0 ? 0 : 2);
            due("bits", x.look(m, 4), m == 0 ? 26 + 8 + 24 + 37 : 26 + 6 + 8);
            due("deliver", x.deliver(m), 0);
            dueGot(x, 9, running % 65536, tied, 2147483648L + tied, (tied + 1) % 2);
        }
    }

    private static void promise05References() {
        Due.about("5 references");
        for (int w = 0; w < 8; w++) {
            Line x = new Line(w);
            x.field(RUNNING, 8, 0, 0);
            for (int m = 0; m < 20; m++) {
                x.send(4, false);
                int held = Math.min(m + 1, w + 1);
                due("how many", x.squeezer(4, 2), held);
                due("oldest", x.squeezer(4, 3), m + 1 - held);
                due("NUMBER", x.squeezer(4, 0), m + 1);
            }
            x.send(4, true);
            due("how many behind a WHOLE one", x.squeezer(4, 2), 1);
            due("oldest behind a WHOLE one", x.squeezer(4, 3), 20);
            due("others", x.squeezer(3, 2), 0);
        }
    }

    private static void promise05RoundsTurn() {
        Due.about("5 rounds");
        Line x = new Line(0);
        x.field(STILL, 6, 0, 0);
        for (int m = 0; m < 40; m++) {
            x.send(0, true);
            due("ROUND", x.squeezer(0, 1), (m + 1) % 16);
            due("in the letter", (x.octet(m, 2) & 3) << 2 | x.octet(m, 3) >> 6, (m + 1) % 16);
            due("deliver", x.deliver(m), 0);
            due("context", x.context(0, 2), (m + 1) % 16);
        }
    }

    /** n for one reference at 100 that gives 101: the span is g - 2^(n-1) .. g + 2^(n-1) - 1. */
    private static void promise05LeastBits() {
        Due.about("5 least n");
        int[] off = {0, -1, 1, -2, -3, 2, 3, -4, 4, -5, 7, -8, 8, 127, -128, 128, -129, 32767, -32768};
        int[] n = {0, 1, 2, 2, 3, 3, 3, 3, 4, 4, 4, 4, 5, 8, 8, 9, 9, 16, 16};
        for (int i = 0; i < off.length; i++) {
            Line x = new Line(7);
            x.field(RUNNING, 16, 0, 0);
            x.set(0, 100);
            x.send(0, false);
            x.set(0, 101 + off[i]);
            x.send(0, false);
            due("n of " + off[i], x.prove(1, 0, 0), n[i]);
            due("bits of " + off[i], x.look(1, 4), 26 + 6 + n[i] + 8);
            due("deliver", x.deliver(0), 0);
            due("deliver", x.deliver(1), 0);
            due("got", x.got(0), (101 + off[i]) & 65535);
        }
    }

    private static void promise05WideFields() {
        Due.about("5 wide");
        Line x = new Line(7);
        for (int f = 0; f < 8; f++) {
            x.field(f % 2 == 0 ? RUNNING : CLOCKED, 32, 0, 1000);
            x.set(f, 4294967295L);
        }
        x.send(7, false);
        due("bits of WHOLE", x.look(0, 4), 26 + 8 * 40);
        due("bytes of WHOLE", x.look(0, 3), 45);
        for (int f = 0; f < 8; f++) {
            x.set(f, 2147483647L + f);
        }
        x.send(7, false);
        due("deliver", x.deliver(0), 0);
        due("known", x.known(7, 7, false), 4294967295L);
        due("deliver", x.deliver(1), 0);
        for (int f = 0; f < 8; f++) {
            due("n", x.prove(1, f, 0), 32);
            due("got", x.got(f), 2147483647L + f);
        }
    }

    private static void promise06Ack() {
        Due.about("6");
        Line x = mixed(3);
        due("no CONTEXT", x.ack(0), -3);
        for (int flow : OUT_OF_8) {
            due("FLOW " + flow, x.ack(flow), -1);
        }
        due("count(1)", x.count(1), 0);
        x.send(6, false);
        x.send(6, false);
        x.deliver(0);
        x.deliver(1);
        due("ack", x.ack(6), 2);
        dueBits(x, 2, "011 110 0000000000000001", true);
        due("KIND", x.look(2, 0), 3);
        due("number", x.look(2, 2), 1);
        due("no CONTEXT", x.ack(5), -3);
        fill(x);
        due("full", x.ack(6), -2);
        due("full, no CONTEXT", x.ack(5), -2);
        due("full, no FLOW", x.ack(8), -1);
    }

    private static void promise07Nack() {
        Due.about("7");
        Line x = mixed(3);
        for (int flow : OUT_OF_8) {
            due("FLOW " + flow, x.nack(flow), -1);
        }
        due("STALE", x.nack(6), 0);
        dueBits(x, 0, "101 110 0000000000000000", true);
        due("KIND", x.look(0, 0), 5);
        x.send(6, false);
        x.deliver(1);
        due("NACK", x.nack(6), 2);
        dueBits(x, 2, "100 110 0000000000000001", true);
        due("KIND", x.look(2, 0), 4);
        due("number", x.look(2, 2), 1);
        x.forget(6, 1);
        due("STALE again", x.nack(6), 3);
        due("KIND", x.look(3, 0), 5);
        due("number", x.look(3, 2), 0);
        fill(x);
        due("full", x.nack(6), -2);
        due("full, no FLOW", x.nack(-1), -1);
        Line y = withContextAt65535();
        int l = y.nack(0);
        due("behind 65535", y.look(l, 2), 0);
        dueBits(y, l, "100 000 0000000000000000", true);
    }

    private static void promise08BrokenWhole() {
        Due.about("8 BROKEN WHOLE");
        Line x = new Line(0);
        x.field(RUNNING, 8, 0, 0);
        x.set(0, 9);
        x.send(1, false);
        due("bytes", x.look(0, 3), 7);
        for (int k = 0; k < 7; k++) {
            for (int bit = 1; bit < 256; bit <<= 1) {
                x.bend(0, k, bit);
                due("byte " + k + " bit " + bit, x.deliver(0), 5);
                x.bend(0, k, bit);
            }
        }
        due("no CONTEXT yet", x.context(1, 0), 0);
        due("got none", x.hung(3), 0);
        bendAndMend(x, 0, 5, 1);
        due("fill bit", x.deliver(0), 5);
        bendAndMend(x, 0, 5, 1);
        bendAndMend(x, 0, 0, 0xc0);
        due("KIND 6", x.deliver(0), 5);
        bendAndMend(x, 0, 0, 0x20);
        due("KIND 7", x.deliver(0), 5);
        bendAndMend(x, 0, 0, 0x80);
        due("KIND 3: a byte longer or more", x.deliver(0), 5);
        bendAndMend(x, 0, 0, 0x60);
        due("mended", x.deliver(0), 0);
        int stale = x.nack(3);
        bendAndMend(x, stale, 0, 0xa0);
        due("a short letter as WHOLE: ends ahead", x.deliver(stale), 5);
    }

    private static void promise08BrokenPartAndShort() {
        Due.about("8 BROKEN PART, SHORT");
        Line x = new Line(0);
        x.field(STILL, 8, 0, 0);
        x.field(RUNNING, 8, 0, 0);
        x.send(0, false);
        x.deliver(0);
        draft(x, 0, 1);
        x.send(0, false);
        draft(x, 5, 2);
        x.send(0, false);
        dueBits(x, 1, "010 000 0000000000000001 0001 000000 " + sum(0, 1), false);
        dueBits(x, 2, "001 000 0000000000000010 0001 1 00000101 0 " + sum(5, 2), false);
        x.bend(1, 3, 1);
        due("n 1: ends a bit ahead of its end", x.deliver(1), 5);
        x.bend(1, 3, 1);
        x.bend(1, 3, 8);
        due("n 8: ends ahead of its end", x.deliver(1), 5);
        x.bend(1, 3, 1);
        due("n 9: above WIDTH", x.deliver(1), 5);
        x.bend(1, 3, 9);
        due("mended", x.deliver(1), 0);
        x.bend(2, 5, 1);
        due("fill bit", x.deliver(2), 5);
        x.bend(2, 5, 1);
        x.bend(2, 3, 32);
        due("a byte longer", x.deliver(2), 5);
        x.bend(2, 3, 32);
        x.bend(2, 4, 16);
        due("a value is told where it ends ahead", x.deliver(2), 5);
        x.bend(2, 4, 16);
        due("mended", x.deliver(2), 0);
        due("got", x.got(0), 5);
        due("got", x.got(1), 2);
        aboveWidthThatFits();
    }

    /** n above WIDTH is BROKEN even where the letter is long enough for it. */
    private static void aboveWidthThatFits() {
        Line x = new Line(0);
        x.field(RUNNING, 2, 0, 0);
        x.field(FREE, 4, 0, 0);
        x.send(0, false);
        x.deliver(0);
        draft(x, 1, 0);
        x.send(0, false);
        dueBits(x, 1, "010 000 0000000000000001 0001 000000 0000 " + sum(1, 0), false);
        x.bend(1, 3, 3);
        due("n 3 of WIDTH 2", x.deliver(1), 5);
        x.bend(1, 3, 1);
        due("n 2 of WIDTH 2", x.deliver(1), 4);
    }

    private static void promise08OtherOutcomes() {
        Due.about("8");
        Line x = mixed(1);
        for (int l : new int[] {-1, 0, 1, 199, 200, MIN, MAX}) {
            due("no LETTER", x.deliver(l), -1);
        }
        draft(x, 1, 6, 10, 100, 0);
        x.send(0, false);
        draft(x, 1, 6, 11, 110, 0);
        x.send(0, false);
        due("NONE: no CONTEXT", x.deliver(1), 3);
        due("TAKEN", x.deliver(0), 0);
        due("LATE, WHOLE", x.deliver(0), 1);
        due("TAKEN", x.deliver(1), 0);
        due("LATE, SHORT", x.deliver(1), 1);
        x.send(0, true);
        x.send(0, false);
        due("NONE: another ROUND", x.deliver(3), 3);
        due("TAKEN", x.deliver(2), 0);
        x.bend(3, x.look(3, 3) - 1, 128);
        due("UNLIKE or BROKEN changes nothing", x.deliver(3) > 3 ? 1 : 0, 1);
        due("context", x.context(0, 1), 2);
        due("hung", x.hung(3), 3);
        x.bend(3, x.look(3, 3) - 1, 128);
        due("TAKEN", x.deliver(3), 0);
        unlikeByForgottenHeaders();
    }

    /** An ACK of a header that the opener then forgets is how like letters come to be UNLIKE. */
    private static void unlikeByForgottenHeaders() {
        Line x = new Line(7);
        x.field(STILL, 8, 0, 0);
        draft(x, 1);
        x.send(0, false);
        x.deliver(0);
        x.send(0, true);
        int spare = x.twice(1);
        draft(x, 2);
        x.send(0, false);
        x.deliver(1);
        x.deliver(3);
        int ack = x.ack(0);
        due("ACK", x.deliver(ack), 6);
        x.forget(0, 1);
        due("the older one again", x.deliver(spare), 0);
        x.send(0, false);
        due("SHORT", x.look(5, 0), 2);
        due("UNLIKE", x.deliver(5), 4);
        due("context stays", x.context(0, 1), 1);
        due("known stays", x.known(0, 0, false), 1);
    }

    /** Of outcomes that hold at once the first told one is due: 5, 3, 1, 2, 4. */
    private static void promise08OrderOfOutcomes() {
        Due.about("8 order");
        Line x = new Line(0);
        x.field(FREE, 6, 0, 0);
        for (int l = 0; l < 4; l++) {
            x.send(0, false);
        }
        due("NONE", x.deliver(3), 3);
        x.bend(3, 0, 0xe0);
        due("BROKEN before NONE", x.deliver(3), 5);
        x.bend(3, 0, 0xe0);
        x.deliver(0);
        x.bend(3, 4, 1);
        due("FAR before UNLIKE", x.deliver(3), 2);
        x.send(0, true);
        due("WHOLE is never FAR", x.deliver(4), 0);
        due("NONE before LATE", x.deliver(1), 3);
        x.send(0, false);
        x.deliver(5);
        x.bend(5, 4, 1);
        due("LATE before UNLIKE", x.deliver(5), 1);
        x.bend(5, 0, 0xe0);
        due("BROKEN before LATE", x.deliver(5), 5);
    }

    private static void promise08FarEdge() {
        Due.about("8 FAR");
        for (int w = 0; w < 8; w++) {
            Line x = new Line(w);
            x.field(CLOCKED, 10, 0, 7);
            for (int m = 0; m < 12; m++) {
                x.set(0, 1000 + 7 * m + m % 3);
                x.send(2, false);
            }
            x.deliver(0);
            due("W + 1 above", x.deliver(w + 2), 2);
            due("W above", x.deliver(w + 1), 0);
            due("got", x.got(0), (1000 + 7 * (w + 1) + (w + 1) % 3) & 1023);
            due("hung on", x.hung(2), 0);
        }
    }

    private static void promise08Answers() {
        Due.about("8 answers");
        Line x = new Line(7);
        x.field(RUNNING, 8, 0, 0);
        int stale = x.nack(0);
        due("STALE, owed already", x.deliver(stale), 7);
        for (int m = 0; m < 5; m++) {
            x.send(0, false);
        }
        due("STALE", x.deliver(stale), 6);
        due("owes", x.squeezer(0, 4), 1);
        due("references stay", x.squeezer(0, 2), 5);
        due("STALE again", x.deliver(stale), 7);
        due("other FLOWS", x.squeezer(1, 1), 0);
        x.deliver(1);
        x.deliver(3);
        int ack = x.ack(0);
        due("ACK of 2", x.deliver(ack), 6);
        due("older ones go", x.squeezer(0, 2), 3);
        due("oldest", x.squeezer(0, 3), 2);
        due("ACK of the oldest", x.deliver(ack), 6);
        due("none goes", x.squeezer(0, 2), 3);
        due("still owes", x.squeezer(0, 4), 1);
        x.send(0, false);
        due("ACK of one that went", x.deliver(ack), 7);
        due("stays", x.squeezer(0, 2), 1);
        int nack = x.nack(0);
        due("NACK", x.deliver(nack), 6);
        due("NACK again", x.deliver(nack), 7);
        for (int k = 0; k < 4; k++) {
            for (int bit = 1; bit < 256; bit <<= 1) {
                x.bend(nack, k, bit);
                due("BROKEN", x.deliver(nack), 5);
                x.bend(nack, k, bit);
            }
        }
        bendAndMend(x, nack, 2, 1);
        due("fill bit", x.deliver(nack), 5);
        bendAndMend(x, nack, 2, 1);
        bendAndMend(x, nack, 0, 0xe0);
        due("as ACK of 3", x.deliver(nack), 7);
        bendAndMend(x, nack, 0, 4);
        due("as ACK of FLOW 1", x.deliver(nack), 7);
        bendAndMend(x, nack, 0, 0xe0);
        due("as NACK of FLOW 1", x.deliver(nack), 7);
    }

    private static void promise08Flows() {
        Due.about("8 flows");
        Line x = new Line(0);
        x.field(RUNNING, 8, 0, 0);
        for (int flow = 0; flow < 8; flow++) {
            x.set(0, 10 * flow);
            x.send(flow, false);
        }
        for (int flow = 7; flow >= 0; flow--) {
            due("deliver", x.deliver(flow), 0);
            due("FLOW", x.hung(0), flow);
            due("known", x.known(flow, 0, false), 10 * flow);
        }
        x.forget(4, 1);
        due("of FLOW 3", x.deliver(3), 1);
        bendAndMend(x, 3, 0, (3 ^ 4) << 2);
        due("its bits tell FLOW 4", x.deliver(3), 0);
        due("FLOW", x.hung(0), 4);
        due("known", x.known(4, 0, false), 30);
        due("FLOW as made", x.look(3, 1), 3);
    }

    private static void promise09Lose() {
        Due.about("9");
        Line x = mixed(0);
        due("none", x.lose(0), -1);
        x.send(0, false);
        x.send(0, false);
        due("lose", x.lose(0), 0);
        due("again", x.lose(0), -1);
        due("lost is lost", x.deliver(0), -1);
        due("no such", x.lose(2), -1);
        due("no such", x.lose(-1), -1);
        due("no such", x.lose(MAX), -1);
        due("count(3)", x.count(3), 1);
        due("count(1)", x.count(1), 2);
        due("twice", x.twice(0), -1);
        due("bend", x.bend(0, 0, 1), -1);
        due("the other is under way", x.deliver(1), 3);
    }

    private static void promise10Twice() {
        Due.about("10");
        Line x = mixed(3);
        due("none", x.twice(0), -1);
        draft(x, 7, 12, 0, 0, 0);
        x.send(2, false);
        x.send(2, false);
        x.bend(1, 0, 32);
        x.deliver(1);
        due("twice", x.twice(1), 2);
        for (int k = 0; k < x.look(1, 3); k++) {
            due("byte " + k, x.octet(2, k), x.octet(1, k));
        }
        due("KIND as made", x.look(2, 0), 2);
        due("FLOW as made", x.look(2, 1), 2);
        due("number as made", x.look(2, 2), 1);
        due("bytes", x.look(2, 3), x.look(1, 3));
        due("bits", x.look(2, 4), x.look(1, 4));
        due("not delivered", x.look(2, 5), -1);
        due("not lost", x.look(2, 6), 0);
        x.bend(2, 0, 32);
        due("bytes are its own", x.octet(1, 0) ^ x.octet(2, 0), 32);
        x.lose(1);
        due("of a lost one", x.twice(1), -1);
        due("of a copy", x.twice(2), 3);
        x.deliver(0);
        due("deliver", x.deliver(3), 0);
        fill(x);
        due("full", x.twice(2), -2);
        due("full, lost", x.twice(1), -1);
        due("full, none", x.twice(200), -1);
    }

    private static void promise11Bend() {
        Due.about("11");
        Line x = new Line(0);
        x.field(STILL, 6, 0, 0);
        x.set(0, 63);
        x.send(0, false);
        due("bytes", x.look(0, 3), 5);
        due("byte 3", x.octet(0, 3), 127);
        due("bend", x.bend(0, 3, 255), 128);
        due("bend", x.bend(0, 3, 1), 129);
        due("octet", x.octet(0, 3), 129);
        due("mask 0", x.bend(0, 3, 0), -1);
        due("mask 256", x.bend(0, 3, 256), -1);
        due("mask -1", x.bend(0, 3, -1), -1);
        due("byte 5", x.bend(0, 5, 1), -1);
        due("byte -1", x.bend(0, -1, 1), -1);
        due("byte MAX", x.bend(0, MAX, 1), -1);
        due("no LETTER", x.bend(1, 0, 1), -1);
        due("last byte", x.bend(0, 4, 1) ^ 1, 255 - (64 + 63));
        due("octet", x.octet(0, 3), 129);
        due("KIND as made", x.look(0, 0), 0);
    }

    private static void promise12Octet() {
        Due.about("12");
        Line x = new Line(0);
        x.field(STILL, 6, 0, 0);
        due("no LETTER", x.octet(0, 0), -1);
        x.set(0, 5);
        x.send(1, false);
        int[] bytes = {4, 0, 0, 64 + 5, 255 - 4 - 64 - 5};
        for (int k = 0; k < 5; k++) {
            due("byte " + k, x.octet(0, k), bytes[k]);
        }
        due("byte 5", x.octet(0, 5), -1);
        due("byte -1", x.octet(0, -1), -1);
        due("byte MIN", x.octet(0, MIN), -1);
        due("LETTER -1", x.octet(-1, 0), -1);
        x.lose(0);
        due("lost ones have theirs", x.octet(0, 3), 69);
    }

    private static void promise13Look() {
        Due.about("13");
        Line x = mixed(3);
        due("none", x.look(0, 0), -1);
        x.send(3, false);
        x.send(3, false);
        draft(x, 0, 5, 1, 1, 0);
        due("bits of WHOLE", x.look(0, 4), 26 + 8 + 8 + 24 + 28 + 5);
        due("bytes of WHOLE", x.look(0, 3), 13 + 1);
        due("KIND of PART", x.look(1, 0), 1);
        due("bits of PART", x.look(1, 4), 26 + 1 + 9 + 17 + 21 + 5 + 8);
        due("bytes of PART", x.look(1, 3), 11);
        x.send(3, true);
        draft(x, 0, 5, 2, 11, 0);
        x.send(3, false);
        due("KIND of SHORT", x.look(3, 0), 2);
        due("bits of SHORT", x.look(3, 4), 26 + 6 + 6 + 5 + 8);
        due("bytes of SHORT", x.look(3, 3), 7);
        due("no OUTCOME", x.look(3, 5), -1);
        due("not lost", x.look(3, 6), 0);
        due("FLOW", x.look(3, 1), 3);
        due("number", x.look(3, 2), 3);
        due("NONE", x.deliver(3), 3);
        due("OUTCOME", x.look(3, 5), 3);
        x.deliver(2);
        x.deliver(3);
        due("OUTCOME of the latest", x.look(3, 5), 0);
        x.bend(3, 0, 255);
        due("KIND as made", x.look(3, 0), 2);
        due("FLOW as made", x.look(3, 1), 3);
        x.lose(3);
        due("lost", x.look(3, 6), 1);
        due("OUTCOME stays", x.look(3, 5), 0);
        due("refused delivery", x.deliver(3), -1);
        due("OUTCOME stays", x.look(3, 5), 0);
        int ack = x.ack(3);
        due("bits of ACK", x.look(ack, 4), 22);
        due("bytes of ACK", x.look(ack, 3), 4);
        x.deliver(ack);
        due("OUTCOME of ACK", x.look(ack, 5), 6);
        due("what 7", x.look(0, 7), -1);
        due("what -1", x.look(0, -1), -1);
        due("LETTER -1", x.look(-1, 0), -1);
        due("LETTER 5", x.look(5, 0), -1);
    }

    private static void promise14Prove() {
        Due.about("14");
        Line x = new Line(3);
        x.field(RUNNING, 16, 0, 0);
        x.field(STILL, 8, 0, 0);
        x.field(CLOCKED, 16, 0, 10);
        int[] running = {100, 104, 105, 106, 107};
        for (int m = 0; m < 5; m++) {
            draft(x, running[m], 1, 50 + 10 * m);
            x.send(0, false);
        }
        due("n", x.prove(4, 0, 0), 3);
        due("oldest that n - 1 don't do for", x.prove(4, 0, 1), 0);
        due("references", x.prove(4, 0, 2), 4);
        due("oldest", x.prove(4, 0, 3), 0);
        due("n 0", x.prove(4, 2, 0), 0);
        due("n 0 has none", x.prove(4, 2, 1), -2);
        due("references", x.prove(4, 2, 2), 4);
        draft(x, 116, 1, 100);
        x.send(0, false);
        due("n", x.prove(5, 0, 0), 5);
        due("the first of all", x.prove(5, 0, 1), 1);
        due("references", x.prove(5, 0, 2), 4);
        due("oldest", x.prove(5, 0, 3), 1);
        youngerOneDecides();
        due("earlier letters keep theirs", x.prove(1, 0, 0), 3);
        due("one reference", x.prove(1, 0, 2), 1);
        due("STILL", x.prove(4, 1, 0), -1);
        due("no FIELD", x.prove(4, 3, 0), -1);
        due("FIELD -1", x.prove(4, -1, 0), -1);
        due("what 4", x.prove(4, 0, 4), -1);
        due("what -1", x.prove(4, 0, -1), -1);
        due("WHOLE", x.prove(0, 0, 0), -1);
        due("no LETTER", x.prove(6, 0, 0), -1);
        int copy = x.twice(4);
        due("a copy is none", x.prove(copy, 0, 0), -1);
        x.bend(4, 0, 255);
        due("as it was made", x.prove(4, 0, 0), 3);
        x.lose(4);
        due("lost", x.prove(4, 0, 0), 3);
        draft(x, 116, 2, 100);
        x.send(0, false);
        due("PART", x.look(7, 0), 1);
        due("PART", x.prove(7, 0, 0), -1);
        int ack = x.nack(0);
        due("STALE", x.prove(ack, 0, 0), -1);
    }

    private static void youngerOneDecides() {
        Line x = new Line(3);
        x.field(RUNNING, 16, 0, 0);
        int[] running = {100, 101, 150, 103};
        for (int m = 0; m < 4; m++) {
            draft(x, running[m]);
            x.send(0, false);
        }
        due("n", x.prove(3, 0, 0), 7);
        due("not the oldest", x.prove(3, 0, 1), 2);
        due("oldest", x.prove(3, 0, 3), 0);
    }

    private static void promise15to17Got() {
        Due.about("15 to 17");
        Line x = mixed(3);
        due("got, none", x.got(0), -2);
        due("way, none", x.way(0), -2);
        due("got, no FIELD", x.got(5), -1);
        due("way, no FIELD", x.way(5), -1);
        due("got, FIELD -1", x.got(-1), -1);
        due("way, FIELD -1", x.way(-1), -1);
        due("hung 0, none", x.hung(0), -2);
        due("hung 1, none", x.hung(1), -2);
        due("hung 2, none", x.hung(2), -2);
        due("hung 3, none", x.hung(3), 0);
        due("hung 4", x.hung(4), -1);
        due("hung -1", x.hung(-1), -1);
        draft(x, 7, 12, 100, 500, 3);
        x.send(6, false);
        draft(x, 7, 12, 105, 510, 4);
        x.send(6, false);
        draft(x, 8, 13, 106, 521, 5);
        x.send(6, false);
        x.deliver(0);
        dueGot(x, 7, 12, 100, 500, 3);
        dueWays(x, 2, 2, 2, 2, 2);
        dueHung(x, 6, 0, -1, 1);
        x.deliver(1);
        dueGot(x, 7, 12, 105, 510, 4);
        dueWays(x, 0, 0, 1, 1, 2);
        dueHung(x, 6, 1, 0, 2);
        x.deliver(2);
        dueGot(x, 8, 13, 106, 521, 5);
        dueWays(x, 2, 0, 2, 2, 2);
        dueHung(x, 6, 2, 1, 3);
        due("LATE", x.deliver(0), 1);
        dueHung(x, 6, 2, 1, 3);
        x.send(1, false);
        x.deliver(3);
        dueHung(x, 1, 0, -1, 4);
        x.forget(1, 1);
        dueHung(x, 1, 0, -1, 4);
        dueGot(x, 8, 13, 106, 521, 5);
    }

    private static void promise18Context() {
        Due.about("18");
        Line x = mixed(3);
        due("none", x.context(0, 0), 0);
        due("none", x.context(0, 1), -2);
        due("none", x.context(0, 2), -2);
        x.send(0, true);
        x.send(0, true);
        x.send(0, false);
        x.deliver(1);
        due("there is", x.context(0, 0), 1);
        due("number", x.context(0, 1), 1);
        due("ROUND", x.context(0, 2), 2);
        x.deliver(2);
        due("number", x.context(0, 1), 2);
        due("ROUND", x.context(0, 2), 2);
        due("what 3", x.context(0, 3), -1);
        due("what -1", x.context(0, -1), -1);
        due("what 3, none", x.context(1, 3), -1);
        for (int flow : OUT_OF_8) {
            due("FLOW " + flow, x.context(flow, 0), -1);
        }
        Line y = withContextAt65535();
        due("as it stood", y.context(0, 1), 65535);
    }

    private static void promise19Known() {
        Due.about("19");
        Line x = mixed(3);
        due("none", x.known(0, 0, false), -2);
        due("none", x.known(0, 0, true), -2);
        due("none, no FIELD", x.known(0, 5, false), -1);
        x.stride(0, 2, 0);
        x.stride(0, 3, 255);
        draft(x, 7, 12, 100, 500, 3);
        x.send(0, false);
        x.deliver(0);
        long[] values = {7, 12, 100, 500, 3};
        long[] strides = {1, 1, 0, 255, 1};
        for (int f = 0; f < 5; f++) {
            due("value " + f, x.known(0, f, false), values[f]);
            due("STRIDE " + f, x.known(0, f, true), strides[f]);
        }
        x.stride(0, 2, 9);
        due("the opener's STRIDE", x.known(0, 2, true), 0);
        x.send(0, false);
        due("not delivered", x.known(0, 2, true), 0);
        x.deliver(1);
        due("delivered", x.known(0, 2, true), 9);
        draft(x, 7, 12, 110, 500, 30);
        x.send(0, false);
        x.deliver(2);
        due("of a SHORT letter", x.known(0, 2, false), 110);
        due("STRIDE stays", x.known(0, 2, true), 9);
        due("FIELD 5", x.known(0, 5, true), -1);
        due("FIELD -1", x.known(0, -1, true), -1);
        due("another FLOW", x.known(1, 0, false), -2);
        for (int flow : OUT_OF_8) {
            due("FLOW " + flow, x.known(flow, 0, false), -1);
        }
    }

    private static void promise20Squeezer() {
        Due.about("20");
        Line x = mixed(1);
        x.send(0, false);
        x.send(0, false);
        x.send(0, false);
        int[] want = {3, 1, 2, 1, 0};
        for (int what = 0; what < 5; what++) {
            due("what " + what, x.squeezer(0, what), want[what]);
        }
        due("what 5", x.squeezer(0, 5), -1);
        due("what -1", x.squeezer(0, -1), -1);
        due("others", x.squeezer(1, 0), 0);
        for (int flow : OUT_OF_8) {
            due("FLOW " + flow, x.squeezer(flow, 0), -1);
        }
    }

    private static void promise21Forget() {
        Due.about("21");
        Line x = mixed(3);
        due("no CONTEXT", x.forget(0, 1), 0);
        due("no reference", x.forget(0, 0), 0);
        x.send(0, false);
        x.deliver(0);
        due("end 2", x.forget(0, 2), -1);
        due("end -1", x.forget(0, -1), -1);
        for (int flow : OUT_OF_8) {
            due("FLOW " + flow, x.forget(flow, 0), -1);
        }
        due("owes none", x.squeezer(0, 4), 0);
        due("CONTEXT", x.forget(0, 1), 1);
        due("gone", x.context(0, 0), 0);
        due("references stay", x.squeezer(0, 2), 1);
        due("CONTEXT", x.forget(0, 1), 0);
        due("reference", x.forget(0, 0), 1);
        due("gone", x.squeezer(0, 2), 0);
        due("oldest", x.squeezer(0, 3), -2);
        due("owes", x.squeezer(0, 4), 1);
        due("NUMBER stays", x.squeezer(0, 0), 1);
        due("ROUND stays", x.squeezer(0, 1), 1);
        due("reference", x.forget(0, 0), 0);
        due("an older letter again", x.deliver(0), 0);
    }

    private static void promise22Spent() {
        Due.about("22");
        Line x = new Line(3);
        x.field(FREE, 10, 0, 0);
        x.field(STILL, 4, 0, 0);
        x.send(0, false);
        x.send(0, true);
        x.send(0, false);
        x.set(1, 3);
        x.send(0, false);
        x.send(1, false);
        x.deliver(0);
        x.ack(0);
        x.nack(0);
        x.nack(3);
        x.twice(0);
        x.twice(3);
        x.twice(5);
        x.lose(2);
        due("WHOLE", x.spent(0, 0, 0), 2);
        due("WHOLE bits", x.spent(0, 0, 1), 80);
        due("WHOLE beyond", x.spent(0, 0, 2), 0);
        due("PART", x.spent(0, 1, 0), 1);
        due("PART bits", x.spent(0, 1, 1), 26 + 10 + 5 + 8);
        due("PART beyond", x.spent(0, 1, 2), -9);
        due("SHORT, lost", x.spent(0, 2, 0), 1);
        due("SHORT bits", x.spent(0, 2, 1), 44);
        due("SHORT beyond", x.spent(0, 2, 2), -4);
        for (int kind = 3; kind < 5; kind++) {
            due("answers", x.spent(0, kind, 0), 1);
            due("answers' bits", x.spent(0, kind, 1), 22);
            due("answers beyond", x.spent(0, kind, 2), 0);
        }
        due("STALE of FLOW 0", x.spent(0, 5, 0), 0);
        due("STALE of FLOW 3", x.spent(3, 5, 0), 1);
        due("of FLOW 1", x.spent(1, 0, 1), 40);
        fill(x);
        due("STALE of FLOW 7", x.spent(7, 5, 1), 22 * 189);
        due("KIND 6", x.spent(0, 6, 0), -1);
        due("KIND -1", x.spent(0, -1, 0), -1);
        due("what 3", x.spent(0, 0, 3), -1);
        due("what -1", x.spent(0, 0, -1), -1);
        for (int flow : OUT_OF_8) {
            due("FLOW " + flow, x.spent(flow, 0, 0), -1);
        }
        Line y = mixed(3);
        draft(y, 0, 5, 0, 0, 0);
        y.send(0, false);
        y.send(0, false);
        due("STRIDES of WHOLE letters count", y.spent(0, 2, 2), 99 - (26 + 7 + 11 + 5 + 8));
    }

    private static void promise23Keep() {
        Due.about("23");
        Line x = mixed(2);
        for (int s : OUT_OF_8) {
            due("SHELF " + s, x.keep(s, 0, 0), -1);
        }
        due("no LETTER", x.keep(0, 1, 0), -1);
        due("no LETTER", x.keep(0, 2, 0), -1);
        due("no CONTEXT", x.keep(0, 4, 0), -1);
        due("no reference", x.keep(0, 3, 0), 0);
        due("an empty ROW", x.put(0, 0, 1), -13);
        due("what 5", x.keep(0, 5, 0), -1);
        due("what -1", x.keep(0, -1, 0), -1);
        due("FLOW 8", x.keep(0, 3, 8), -1);
        due("FLOW -1", x.keep(0, 3, -1), -1);
        due("FLOW 8", x.keep(0, 4, 8), -1);
        draft(x, 7, 12, 100, 500, 3);
        for (int m = 0; m < 5; m++) {
            x.send(1, false);
        }
        x.deliver(0);
        due("LETTER 5", x.keep(0, 1, 5), -1);
        due("LETTER -1", x.keep(0, 2, -1), -1);
        due("bytes", x.keep(1, 2, 0), 0);
        for (int k = 0; k < 14; k++) {
            due("byte " + k, x.put(1, k, 1), x.octet(0, k));
        }
        due("behind the bytes", x.put(1, 14, 1), -13);
        due("references", x.keep(2, 3, 1), 0);
        for (int i = 0; i < 3; i++) {
            due("reference " + i, x.put(2, i, 0), 2 + i);
        }
        due("behind the references", x.put(2, 3, 1), -13);
        due("no change of theirs", x.squeezer(1, 3), 2);
        due("CONTEXT", x.keep(3, 4, 1), 0);
        long[] values = {7, 12, 100, 500, 3};
        for (int f = 0; f < 5; f++) {
            due("value " + f, x.put(3, f, 0), values[f]);
        }
        due("behind the values", x.put(3, 5, 1), -13);
        due("no change of it", x.known(1, 0, false), 7);
        due("refused", x.keep(3, 4, 0), -1);
        due("stays", x.put(3, 4, 0), 0);
        due("LETTER", x.keep(3, 1, 1), 0);
        due("LETTER is no ROW", x.put(3, 0, 0), -12);
        due("nothing, any k", x.keep(3, 0, MIN), 0);
        due("nothing", x.put(3, 0, 0), -11);
        x.lose(0);
        due("a lost LETTER", x.keep(3, 1, 0), 0);
        due("a lost LETTER's bytes", x.keep(4, 2, 0), 0);
        due("byte", x.put(4, 0, 0), x.octet(0, 0));
        keepWidest();
    }

    private static void keepWidest() {
        Line x = new Line(0);
        for (int f = 0; f < 8; f++) {
            x.field(RUNNING, 32, 0, 0);
            x.set(f, -1);
        }
        x.send(0, false);
        x.deliver(0);
        due("45 bytes", x.keep(0, 2, 0), 0);
        due("byte 44", x.put(0, 44, 7), x.octet(0, 44));
        due("byte 45", x.put(0, 45, 7), -13);
        x.keep(1, 4, 0);
        due("a long", x.put(1, 7, 0), 4294967295L);
    }

    private static void promise24Make() {
        Due.about("24");
        Line x = new Line(0);
        for (int s : OUT_OF_8) {
            due("SHELF " + s, x.make(s, 2, 1), -1);
            due("SHELF " + s, x.make(s, 2, -1), -1);
        }
        for (int what : new int[] {-1, 0, 1, 5, MAX, MIN}) {
            due("what " + what, x.make(0, what, 3), -1);
            due("what " + what, x.make(0, what, -3), -1);
        }
        for (int what = 2; what < 5; what++) {
            due("n 61", x.make(0, what, 61), -1);
            due("n MAX", x.make(0, what, MAX), -1);
            due("n -1", x.make(0, what, -1), -14);
            due("n MIN", x.make(0, what, MIN), -14);
        }
        due("nothing yet", x.put(0, 0, 0), -11);
        for (int what = 2; what < 5; what++) {
            due("n 60", x.make(0, what, 60), 0);
            due("first", x.put(0, 0, 30000), 0);
            due("last", x.put(0, 59, 30000), 0);
            due("behind", x.put(0, 60, 1), -13);
            due("refused", x.make(0, what, -1), -14);
            due("stays", x.put(0, 59, 5), 30000);
            due("anew", x.make(0, what, 60), 0);
            due("zeros", x.put(0, 59, 5), 0);
            due("n 0", x.make(0, what, 0), 0);
            due("empty", x.put(0, 0, 1), -13);
        }
    }

    private static void promise25Put() {
        Due.about("25");
        Line x = mixed(0);
        x.send(0, false);
        x.keep(1, 1, 0);
        x.make(2, 2, 3);
        for (int s : OUT_OF_8) {
            due("SHELF " + s, x.put(s, 0, 1), -1);
        }
        due("v -1", x.put(2, 0, -1), -1);
        due("v 30001", x.put(2, 0, 30001), -1);
        due("v first, nothing", x.put(0, 0, -1), -1);
        due("v first, LETTER", x.put(1, 0, 30001), -1);
        due("nothing", x.put(0, -1, 1), -11);
        due("LETTER", x.put(1, -1, 1), -12);
        due("place -1", x.put(2, -1, 1), -13);
        due("place 3", x.put(2, 3, 1), -13);
        due("place MAX", x.put(2, MAX, 1), -13);
        due("place MIN", x.put(2, MIN, 1), -13);
        due("put", x.put(2, 1, 30000), 0);
        due("put", x.put(2, 1, 0), 30000);
        due("put", x.put(2, 1, 4), 0);
        due("neighbours", x.put(2, 0, 0) + x.put(2, 2, 0), 0);
    }

    private static void promise26Copy() {
        Due.about("26");
        Line x = mixed(0);
        x.send(0, false);
        x.keep(1, 1, 0);
        for (int what = 2; what < 5; what++) {
            x.make(what, what, 5);
        }
        for (int s : OUT_OF_8) {
            due("SHELF " + s, x.copy(s, 0, 2, 0, 1), -1);
            due("SHELF " + s, x.copy(2, 0, s, 0, 1), -1);
            due("SHELF " + s, x.copy(0, -1, s, 0, -1), -1);
        }
        due("nothing to LETTER", x.copy(0, 0, 1, 0, 1), -11);
        due("LETTER to nothing", x.copy(1, -1, 0, 0, 1), -11);
        due("LETTER to ROW", x.copy(1, -1, 2, 0, 1), -12);
        due("ROW to LETTER", x.copy(2, -1, 1, 0, 1), -12);
        due("LETTER to LETTER", x.copy(1, 0, 1, 0, 0), -12);
        due("shorts to ints", x.copy(2, 0, 3, 0, 9), -12);
        due("ints to longs", x.copy(3, 0, 4, 0, 0), -12);
        for (int what = 2; what < 5; what++) {
            copyRows(x, what);
        }
    }

    private static void copyRows(Line x, int what) {
        x.make(5, what, 3);
        for (int i = 0; i < 5; i++) {
            x.put(what, i, 10 + i);
        }
        due("n -1", x.copy(what, 0, 5, 0, -1), -13);
        due("i -1", x.copy(what, -1, 5, 0, 1), -13);
        due("j -1", x.copy(what, 0, 5, -1, 1), -13);
        due("beyond t", x.copy(what, 0, 5, 0, 4), -13);
        due("beyond t", x.copy(what, 0, 5, 3, 1), -13);
        due("beyond s", x.copy(what, 3, 5, 0, 3), -13);
        due("i MAX", x.copy(what, MAX, 5, 0, 1), -13);
        due("n MAX", x.copy(what, MAX, 5, MAX, MAX), -13);
        due("n MIN", x.copy(what, 0, 5, 0, MIN), -13);
        due("none at the ends", x.copy(what, 5, 5, 3, 0), 0);
        due("none behind the end of s", x.copy(what, 6, 5, 0, 0), -13);
        due("none behind the end of t", x.copy(what, 0, 5, 4, 0), -13);
        due("nothing came so far", x.put(5, 0, 0) + x.put(5, 1, 0) + x.put(5, 2, 0), 0);
        due("copy", x.copy(what, 3, 5, 1, 2), 2);
        due("place 0", x.put(5, 0, 0), 0);
        due("place 1", x.put(5, 1, 0), 13);
        due("place 2", x.put(5, 2, 0), 14);
        due("upwards over itself", x.copy(what, 0, what, 1, 4), 4);
        int[] up = {10, 10, 11, 12, 13};
        for (int i = 0; i < 5; i++) {
            due("place " + i, x.put(what, i, 20 + i), up[i]);
        }
        due("downwards over itself", x.copy(what, 2, what, 0, 3), 3);
        int[] down = {22, 23, 24, 23, 24};
        for (int i = 0; i < 5; i++) {
            due("place " + i, x.put(what, i, 0), down[i]);
        }
    }

    private static Line withLettersOfAllKinds() {
        Line x = new Line(0);
        x.field(STILL, 4, 0, 0);
        x.send(0, false);
        x.set(0, 1);
        x.send(0, false);
        x.send(0, false);
        x.deliver(0);
        x.ack(0);
        x.nack(0);
        x.nack(1);
        for (int l = 0; l < 6; l++) {
            due("KIND", x.look(l, 0), l);
        }
        return x;
    }

    private static void promise27Worth() {
        Due.about("27");
        Line x = withLettersOfAllKinds();
        int[] want = {50, 50 + 1 + 3, (50 + 2 + 3) * 2, 40 + 3 + 1, 40 + 4 + 1 + 5, (40 + 5 + 1 + 5) * 3};
        for (int l = 0; l < 6; l++) {
            x.keep(l, 1, l);
            due("worth of KIND " + l, x.worth(l), want[l]);
        }
        for (int s : OUT_OF_8) {
            due("SHELF " + s, x.worth(s), -1);
        }
        due("nothing", x.worth(7), -11);
        for (int what = 2; what < 5; what++) {
            x.make(7, what, 3);
            due("a ROW", x.worth(7), -12);
        }
        x.bend(2, 0, 224);
        x.keep(7, 1, x.twice(2));
        due("a bent copy, KIND as made", x.worth(7), want[2]);
        x.keep(7, 0, 0);
        due("nothing again", x.worth(7), -11);
        Line y = mixed(0);
        y.send(0, false);
        y.keep(0, 1, 0);
        due("14 bytes", y.worth(0), 140);
    }

    private static void promise28Toss() {
        Due.about("28");
        Line x = withLettersOfAllKinds();
        int[] want = {-15, 1, 2, -15, 4, 5};
        for (int l = 0; l < 6; l++) {
            x.keep(l, 1, l);
            due("toss of KIND " + l, x.toss(l), want[l]);
            due("it stays there", x.toss(l), want[l]);
        }
        for (int s : OUT_OF_8) {
            due("SHELF " + s, x.toss(s), -1);
        }
        due("nothing", x.toss(7), -11);
        for (int what = 2; what < 5; what++) {
            x.make(7, what, 3);
            due("a ROW", x.toss(7), -12);
        }
    }

    private static void promise29Count() {
        Due.about("29");
        Line x = mixed(5);
        x.send(0, false);
        x.send(0, false);
        x.twice(0);
        x.lose(1);
        x.lose(2);
        due("FIELDS", x.count(0), 5);
        due("LETTERS", x.count(1), 3);
        due("W", x.count(2), 6);
        due("lost", x.count(3), 2);
        for (int what : new int[] {-1, 4, MIN, MAX}) {
            due("what " + what, x.count(what), -1);
        }
    }

    private static Line withContextAt65535() {
        Line x = mixed(0);
        x.send(0, false);
        bendAndMend(x, 0, 0, 3);
        bendAndMend(x, 0, 1, 255);
        bendAndMend(x, 0, 2, 252);
        due("deliver", x.deliver(0), 0);
        return x;
    }
}
