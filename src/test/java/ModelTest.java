import java.util.Random;

/** Runs of 512 calls, the same ones each time, on an object and on the model: every answer alike. */
public final class ModelTest {
    private static final int RUNS = 8000;
    private static final int DEAREST_STEP = 90;
    private static final int[] ODD = {-1, 8, 9, 60, 61, 200, 255, 256, 1001, 30001, Integer.MAX_VALUE, Integer.MIN_VALUE};

    private final Random random;
    private final Line real;
    private final Model model;
    private final String run;
    private final int flows;
    private final int kindsBias;
    private final int comparedLetters;
    private final boolean isHasty;

    private static final long[] OUTCOMES = new long[8];
    private static final long[] KINDS = new long[6];
    private static long full = 0;

    private ModelTest(long seed) {
        random = new Random(seed);
        int w = random.nextInt(10) == 0 ? random.nextInt() : random.nextInt(8);
        real = new Line(w);
        model = new Model(w);
        run = "run " + seed + " (w " + w + ")";
        flows = 1 + random.nextInt(random.nextInt(4) == 0 ? 8 : 2);
        kindsBias = random.nextInt(3);
        comparedLetters = random.nextInt(5);
        isHasty = random.nextInt(16) == 0;
    }

    public static void main(String[] args) {
        for (long seed = 1; seed <= RUNS; seed++) {
            new ModelTest(seed).go();
        }
        for (int outcome = 0; outcome < OUTCOMES.length; outcome++) {
            Due.holds("OUTCOME " + outcome + " came up often: " + OUTCOMES[outcome], OUTCOMES[outcome] > 1000);
        }
        for (int kind = 0; kind < KINDS.length; kind++) {
            Due.holds("letters of KIND " + kind + " were made often: " + KINDS[kind], KINDS[kind] > 2000);
        }
        Due.holds("the line was full often: " + full, full > 100);
        Due.finish();
    }

    /** Some steps, and then looks at what has come of them, up to the last call that is promised. */
    private void go() {
        if (random.nextInt(20) != 0) {
            layPlan();
        }
        int looks = DEAREST_STEP + random.nextInt(200);
        while (real.callsLeft() > looks) {
            if (isHasty && random.nextInt(8) != 0) {
                hurry();
            } else {
                step();
            }
        }
        full += model.count(1) == 200 ? 1 : 0;
        while (real.callsLeft() > 0) {
            observe();
        }
    }

    private void due(String call, long got, long want) {
        Due.is(run + ", " + real.callsLeft() + " calls ahead of its end: " + call, got, want);
    }

    private void hurry() {
        int flow = flow();
        if (random.nextInt(3) == 0) {
            nack(flow);
        } else {
            tell(flow, random.nextInt(12) == 0);
        }
    }

    private void layPlan() {
        int fields = 1 + random.nextInt(8);
        for (int i = 0; i < fields; i++) {
            int kind = kindsBias == 0 ? 2 + random.nextInt(2) : random.nextInt(5);
            int width = random.nextInt(3) == 0 ? 1 + random.nextInt(32) : 1 + random.nextInt(12);
            int b = kind == 3 ? 1 + random.nextInt(random.nextBoolean() ? 10 : 1000) : random.nextInt();
            field(kind, width, i == 0 ? 0 : random.nextInt(i), b);
        }
    }

    private void step() {
        switch (random.nextInt(40)) {
            case 0 -> field(number(5), number(33), number(8), number(1001));
            case 1, 2 -> set(number(8), random.nextBoolean() ? random.nextLong() : random.nextInt(300));
            case 3 -> stride(flow(), number(8), random.nextBoolean() ? random.nextInt(4) : number(256));
            case 4, 5, 6, 7, 8, 9, 10, 11 -> tellNext();
            case 12 -> ack(flow());
            case 13 -> nack(flow());
            case 14, 15, 16, 17, 18, 19, 20 -> deliver(recent());
            case 21 -> lose(recent());
            case 22 -> twice(recent());
            case 23, 24 -> bendSome(recent());
            case 25 -> octet();
            case 26 -> look();
            case 27 -> prove();
            case 28, 29 -> lastGot();
            case 30 -> opener();
            case 31 -> squeezer();
            case 32 -> forget();
            case 33 -> spent();
            case 34, 35 -> keep();
            case 36 -> make();
            case 37 -> put();
            case 38 -> copy();
            default -> worthAndToss();
        }
    }

    /** Numbers mostly of the range, now and then from outside it. */
    private int number(int bound) {
        return random.nextInt(12) == 0 ? ODD[random.nextInt(ODD.length)] : random.nextInt(bound);
    }

    private int flow() {
        return random.nextInt(25) == 0 ? ODD[random.nextInt(ODD.length)] : random.nextInt(flows);
    }

    private int recent() {
        int made = model.count(1);
        if (made == 0 || random.nextInt(30) == 0) {
            return number(200);
        }
        return random.nextInt(4) == 0 ? random.nextInt(made) : Math.max(0, made - 1 - random.nextInt(4));
    }

    private void field(int kind, int width, int a, int b) {
        due("field(" + kind + ", " + width + ", " + a + ", " + b + ")",
                real.field(kind, width, a, b), model.field(kind, width, a, b));
    }

    private void set(int field, long value) {
        due("set(" + field + ", " + value + ")", real.set(field, value), model.set(field, value));
    }

    private void stride(int flow, int field, int s) {
        due("stride(" + flow + ", " + field + ", " + s + ")", real.stride(flow, field, s), model.stride(flow, field, s));
    }

    /** Moves some fields on by a little, as a flow of like packets does, and sends. */
    private void tellNext() {
        int fields = model.count(0);
        for (int f = 0; f < fields; f++) {
            if (random.nextInt(3) == 0) {
                long now = model.set(f, 0);
                model.set(f, now);
                long jump = random.nextInt(4) == 0 ? random.nextInt(2000) - 1000 : random.nextInt(6) - 2;
                set(f, now + jump);
            }
        }
        tell(flow(), random.nextInt(12) == 0);
    }

    private void tell(int flow, boolean whole) {
        int l = model.send(flow, whole);
        due("send(" + flow + ", " + whole + ")", real.send(flow, whole), l);
        compareLetter(l);
    }

    /** In some runs of each letter, in some of a few, since the looks take calls from the run. */
    private void compareLetter(int l) {
        if (l < 0) {
            return;
        }
        KINDS[model.look(l, 0)]++;
        if (isHasty || random.nextInt(4) >= comparedLetters) {
            return;
        }
        for (int what = 0; what < 7; what++) {
            due("look(" + l + ", " + what + ")", real.look(l, what), model.look(l, what));
        }
        for (int k = 0; k <= model.look(l, 3); k++) {
            due("octet(" + l + ", " + k + ")", real.octet(l, k), model.octet(l, k));
        }
        int f = random.nextInt(8);
        for (int what = 0; what < 4; what++) {
            proveOf(l, f, what);
        }
    }

    private void ack(int flow) {
        int l = model.ack(flow);
        due("ack(" + flow + ")", real.ack(flow), l);
        compareLetter(l);
    }

    private void nack(int flow) {
        int l = model.nack(flow);
        due("nack(" + flow + ")", real.nack(flow), l);
        compareLetter(l);
    }

    private void deliver(int l) {
        int outcome = model.deliver(l);
        due("deliver(" + l + ")", real.deliver(l), outcome);
        if (outcome >= 0) {
            OUTCOMES[outcome]++;
        }
    }

    private void lose(int l) {
        due("lose(" + l + ")", real.lose(l), model.lose(l));
    }

    private void twice(int l) {
        due("twice(" + l + ")", real.twice(l), model.twice(l));
    }

    private void bend(int l, int k, int mask) {
        due("bend(" + l + ", " + k + ", " + mask + ")", real.bend(l, k, mask), model.bend(l, k, mask));
    }

    /** Bends a byte, and half the time mends CHECK, delivers, and bends it all back. */
    private void bendSome(int l) {
        int bytes = Math.max(1, model.look(l, 3));
        int k = random.nextInt(3) == 0 ? number(bytes) : random.nextInt(bytes);
        int mask = random.nextInt(3) == 0 ? number(256) : 1 << random.nextInt(8);
        bend(l, k, mask);
        int mend = mendingMask(l);
        boolean mends = mend != 0 && random.nextBoolean() && model.look(l, 0) % 3 == 0;
        if (mends) {
            bend(l, bytes - 1, mend);
        }
        deliver(l);
        if (random.nextInt(4) != 0) {
            bend(l, k, mask);
            if (mends) {
                bend(l, bytes - 1, mend);
            }
        }
    }

    private int mendingMask(int l) {
        int last = model.look(l, 3) - 1;
        int total = 0;
        for (int k = 0; k < last; k++) {
            total += model.octet(l, k);
        }
        return last < 0 ? 0 : (255 - total % 256) ^ model.octet(l, last);
    }

    private void octet() {
        int l = recent();
        int k = number(12);
        due("octet(" + l + ", " + k + ")", real.octet(l, k), model.octet(l, k));
    }

    private void look() {
        int l = recent();
        int what = number(7);
        due("look(" + l + ", " + what + ")", real.look(l, what), model.look(l, what));
    }

    private void prove() {
        proveOf(recent(), number(8), number(4));
    }

    private void proveOf(int l, int f, int what) {
        due("prove(" + l + ", " + f + ", " + what + ")", real.prove(l, f, what), model.prove(l, f, what));
    }

    private void lastGot() {
        int f = number(8);
        int what = number(4);
        due("got(" + f + ")", real.got(f), model.got(f));
        due("way(" + f + ")", real.way(f), model.way(f));
        due("hung(" + what + ")", real.hung(what), model.hung(what));
    }

    private void opener() {
        int flow = flow();
        int what = number(3);
        int f = number(8);
        boolean strides = random.nextBoolean();
        due("context(" + flow + ", " + what + ")", real.context(flow, what), model.context(flow, what));
        due("known(" + flow + ", " + f + ", " + strides + ")",
                real.known(flow, f, strides), model.known(flow, f, strides));
    }

    private void squeezer() {
        int flow = flow();
        int what = number(5);
        due("squeezer(" + flow + ", " + what + ")", real.squeezer(flow, what), model.squeezer(flow, what));
    }

    private void forget() {
        int flow = flow();
        int end = number(2);
        due("forget(" + flow + ", " + end + ")", real.forget(flow, end), model.forget(flow, end));
    }

    private void spent() {
        int flow = flow();
        int kind = number(6);
        int what = number(3);
        due("spent(" + flow + ", " + kind + ", " + what + ")",
                real.spent(flow, kind, what), model.spent(flow, kind, what));
    }

    private void keep() {
        int s = number(8);
        int what = number(5);
        int k = what < 3 ? recent() : flow();
        due("keep(" + s + ", " + what + ", " + k + ")", real.keep(s, what, k), model.keep(s, what, k));
    }

    private void make() {
        int s = number(8);
        int what = 2 + number(3);
        int n = number(20);
        due("make(" + s + ", " + what + ", " + n + ")", real.make(s, what, n), model.make(s, what, n));
    }

    private void put() {
        int s = number(8);
        int i = number(10);
        int v = number(30001);
        due("put(" + s + ", " + i + ", " + v + ")", real.put(s, i, v), model.put(s, i, v));
    }

    private void copy() {
        int s = number(8);
        int t = random.nextInt(3) == 0 ? s : number(8);
        int i = number(6);
        int j = number(6);
        int n = number(6);
        due("copy(" + s + ", " + i + ", " + t + ", " + j + ", " + n + ")",
                real.copy(s, i, t, j, n), model.copy(s, i, t, j, n));
    }

    private void worthAndToss() {
        int s = number(8);
        int what = number(4);
        due("worth(" + s + ")", real.worth(s), model.worth(s));
        due("toss(" + s + ")", real.toss(s), model.toss(s));
        due("count(" + what + ")", real.count(what), model.count(what));
    }

    /** One call that tells something of the object, its arguments mostly within what there is. */
    private void observe() {
        int flow = random.nextInt(8) == 0 ? random.nextInt(8) : flow();
        int f = number(Math.max(1, model.count(0)));
        int l = recent();
        int s = number(8);
        switch (random.nextInt(14)) {
            case 0 -> octet();
            case 1 -> look();
            case 2 -> proveOf(l, f, number(4));
            case 3 -> due("got(" + f + ")", real.got(f), model.got(f));
            case 4 -> due("way(" + f + ")", real.way(f), model.way(f));
            case 5 -> due("known(" + flow + ", " + f + ", false)", real.known(flow, f, false), model.known(flow, f, false));
            case 6 -> due("known(" + flow + ", " + f + ", true)", real.known(flow, f, true), model.known(flow, f, true));
            case 7 -> squeezer();
            case 8 -> spent();
            case 9 -> set(f, random.nextLong());
            case 10 -> stride(flow, f, random.nextInt(256));
            case 11 -> put();
            case 12 -> due("worth(" + s + ")", real.worth(s), model.worth(s));
            default -> due("context(" + flow + ", 1)", real.context(flow, 1), model.context(flow, 1));
        }
    }
}
