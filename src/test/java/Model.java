import java.util.ArrayList;
import java.util.Arrays;
import java.util.List;

/**
 * A second reading of the document, on texts of bits and without a thought of room or speed, so that
 * it shares no way of reckoning with the class that is tested against it.
 */
final class Model {
    private record Field(int kind, int width, int a, int b) {
        boolean strided() {
            return kind == 2 || kind == 3;
        }

        long wrap(long value) {
            return Math.floorMod(value, 1L << width);
        }
    }

    private record Head(int number, List<Long> values) {
    }

    private static final class Flow {
        int number;
        int round;
        int[] strides = {1, 1, 1, 1, 1, 1, 1, 1};
        List<Head> references = new ArrayList<>();
        boolean owes = true;
    }

    private record Context(Head head, int round, int[] strides) {
    }

    private static final class Letter {
        int kind;
        int flow;
        int number;
        int bits;
        int[] bytes;
        int outcome = -1;
        boolean lost;
        boolean copy;
        int[][] proofs;
    }

    private record Kept(int what, Letter letter, long[] row) {
    }

    private static final class BrokenLetter extends Exception {
        private static final long serialVersionUID = 1;
    }

    /** The bits of a delivered letter, from the first to the last. */
    private static final class Tape {
        final String bits;
        int at;

        Tape(String bits) {
            this.bits = bits;
        }

        long next(int n) throws BrokenLetter {
            if (at + n > bits.length()) {
                throw new BrokenLetter();
            }
            String piece = bits.substring(at, at + n);
            at += n;
            return n == 0 ? 0 : Long.parseLong(piece, 2);
        }
    }

    private final int w;
    private final List<Field> plan = new ArrayList<>();
    private final long[] draft = new long[8];
    private final Flow[] flows = new Flow[8];
    private final Context[] contexts = new Context[8];
    private final List<Letter> letters = new ArrayList<>();
    private final Kept[] shelves = new Kept[8];
    private Head got;
    private int gotFlow;
    private int gotFrom;
    private int gotCount;
    private List<Integer> gotWays;

    Model(int w) {
        int rest = w % 8;
        this.w = 1 + (rest < 0 ? rest + 8 : rest);
        for (int i = 0; i < 8; i++) {
            flows[i] = new Flow();
        }
    }

    private static boolean upTo7(int n) {
        return n >= 0 && n <= 7;
    }

    private boolean isField(int f) {
        return f >= 0 && f < plan.size();
    }

    private boolean exists(int l) {
        return l >= 0 && l < letters.size();
    }

    private boolean underWay(int l) {
        return exists(l) && !letters.get(l).lost;
    }

    int field(int kind, int width, int a, int b) {
        boolean fits = switch (kind) {
            case 0, 2, 4 -> true;
            case 1 -> isField(a);
            case 3 -> b >= 1 && b <= 1000;
            default -> false;
        };
        if (!fits || width < 1 || width > 32) {
            return -1;
        }
        if (plan.size() == 8) {
            return -2;
        }
        if (!letters.isEmpty()) {
            return -3;
        }
        plan.add(new Field(kind, width, a, b));
        return plan.size() - 1;
    }

    long set(int field, long value) {
        if (!isField(field)) {
            return -1;
        }
        long was = draft[field];
        draft[field] = plan.get(field).wrap(value);
        return was;
    }

    int stride(int flow, int field, int s) {
        if (!upTo7(flow) || !isField(field) || !plan.get(field).strided() || s < 0 || s > 255) {
            return -1;
        }
        int was = flows[flow].strides[field];
        flows[flow].strides[field] = s;
        flows[flow].owes = true;
        return was;
    }

    private long given(int f, Head from, int[] strides, int m, List<Long> coming) {
        Field field = plan.get(f);
        long own = from.values().get(f);
        long passed = m - from.number();
        return switch (field.kind()) {
            case 0 -> own;
            case 1 -> field.wrap(coming.get(field.a()) + field.b());
            case 2 -> field.wrap(own + passed * strides[f]);
            case 3 -> field.wrap(own + passed * strides[f] * field.b());
            default -> 0;
        };
    }

    private long found(int f, long g, int n, long value) {
        if (n == 0) {
            return g;
        }
        long half = 1L << (n - 1);
        if (n <= 6) {
            for (long c = g - half; c < g + half; c++) {
                if (Math.floorMod(c - value, 1L << n) == 0) {
                    return plan.get(f).wrap(c);
                }
            }
        }
        long away = Math.floorMod(value - g, 1L << n);
        return plan.get(f).wrap(away < half ? g + away : g + away - 2 * half);
    }

    private static String binary(long value, int n) {
        StringBuilder text = new StringBuilder();
        for (int i = 0; i < n; i++) {
            text.insert(0, Math.floorMod(value, 2L));
            value = Math.floorDiv(value, 2L);
        }
        return text.toString();
    }

    private static int sum(List<Long> values) {
        long sum = 17;
        for (long value : values) {
            sum = (31 * sum + value) % 256;
        }
        return (int) sum;
    }

    private List<Long> drafted() {
        List<Long> values = new ArrayList<>();
        for (int f = 0; f < plan.size(); f++) {
            values.add(draft[f]);
        }
        return values;
    }

    int send(int flow, boolean whole) {
        if (!upTo7(flow)) {
            return -1;
        }
        if (letters.size() == 200) {
            return -2;
        }
        if (plan.isEmpty()) {
            return -3;
        }
        Flow from = flows[flow];
        Head head = new Head(from.number, drafted());
        boolean[] all = new boolean[8];
        boolean fixed = true;
        for (int f = 0; f < plan.size(); f++) {
            all[f] = true;
            for (Head r : from.references) {
                all[f] &= given(f, r, from.strides, head.number(), head.values()) == draft[f];
            }
            fixed &= all[f] || plan.get(f).kind() > 1;
        }
        Letter letter = new Letter();
        letter.kind = whole || from.owes || from.references.isEmpty() ? 0 : fixed ? 2 : 1;
        letter.flow = flow;
        letter.number = head.number() % 65536;
        if (letter.kind == 0) {
            from.round = (from.round + 1) % 16;
            from.references.clear();
            from.owes = false;
        }
        String bits = binary(letter.kind, 3) + binary(flow, 3) + binary(head.number(), 16) + binary(from.round, 4);
        bits += letter.kind == 0 ? wholeBits(from) : letter.kind == 1 ? partBits(all) : shortBits(from, head, letter);
        bits += letter.kind == 0 ? "" : binary(sum(head.values()), 8);
        from.references.add(head);
        if (from.references.size() > w) {
            from.references.remove(0);
        }
        from.number++;
        return add(letter, bits);
    }

    private String wholeBits(Flow from) {
        StringBuilder bits = new StringBuilder();
        for (int f = 0; f < plan.size(); f++) {
            bits.append(binary(draft[f], plan.get(f).width()));
            bits.append(plan.get(f).strided() ? binary(from.strides[f], 8) : "");
        }
        return bits.toString();
    }

    private String partBits(boolean[] all) {
        StringBuilder bits = new StringBuilder();
        for (int f = 0; f < plan.size(); f++) {
            String value = binary(draft[f], plan.get(f).width());
            bits.append(plan.get(f).kind() == 4 ? value : all[f] ? "0" : "1" + value);
        }
        return bits.toString();
    }

    private String shortBits(Flow from, Head head, Letter letter) {
        StringBuilder bits = new StringBuilder();
        letter.proofs = new int[8][];
        for (int f = 0; f < plan.size(); f++) {
            Field field = plan.get(f);
            if (field.kind() == 4) {
                bits.append(binary(draft[f], field.width()));
            }
            if (!field.strided()) {
                continue;
            }
            int n = 0;
            while (firstMiss(from, head, f, n) != null) {
                n++;
            }
            bits.append(binary(n, 6)).append(binary(draft[f], n));
            int miss = n == 0 ? -2 : firstMiss(from, head, f, n - 1).number();
            letter.proofs[f] = new int[] {n, miss, from.references.size(), from.references.get(0).number()};
        }
        return bits.toString();
    }

    private Head firstMiss(Flow from, Head head, int f, int n) {
        for (Head r : from.references) {
            long g = given(f, r, from.strides, head.number(), head.values());
            if (found(f, g, n, draft[f]) != draft[f]) {
                return r;
            }
        }
        return null;
    }

    private int add(Letter letter, String bits) {
        letter.bits = bits.length();
        String filled = bits + "0".repeat((8 - bits.length() % 8) % 8);
        boolean check = letter.kind != 1 && letter.kind != 2;
        letter.bytes = new int[filled.length() / 8 + (check ? 1 : 0)];
        int total = 0;
        for (int k = 0; k < filled.length() / 8; k++) {
            letter.bytes[k] = Integer.parseInt(filled.substring(8 * k, 8 * k + 8), 2);
            total += letter.bytes[k];
        }
        if (check) {
            letter.bytes[letter.bytes.length - 1] = 255 - total % 256;
        }
        letters.add(letter);
        return letters.size() - 1;
    }

    private int answer(int kind, int flow, int number) {
        Letter letter = new Letter();
        letter.kind = kind;
        letter.flow = flow;
        letter.number = number % 65536;
        return add(letter, binary(kind, 3) + binary(flow, 3) + binary(number, 16));
    }

    int ack(int flow) {
        if (!upTo7(flow)) {
            return -1;
        }
        if (letters.size() == 200) {
            return -2;
        }
        return contexts[flow] == null ? -3 : answer(3, flow, contexts[flow].head().number());
    }

    int nack(int flow) {
        if (!upTo7(flow)) {
            return -1;
        }
        if (letters.size() == 200) {
            return -2;
        }
        return contexts[flow] == null ? answer(5, flow, 0) : answer(4, flow, contexts[flow].head().number() + 1);
    }

    int deliver(int l) {
        if (!underWay(l)) {
            return -1;
        }
        Letter letter = letters.get(l);
        try {
            letter.outcome = opened(letter.bytes);
        } catch (BrokenLetter broken) {
            letter.outcome = 5;
        }
        return letter.outcome;
    }

    private int opened(int[] bytes) throws BrokenLetter {
        StringBuilder text = new StringBuilder();
        for (int b : bytes) {
            text.append(binary(b, 8));
        }
        int kind = Integer.parseInt(text.substring(0, 3), 2);
        if (kind > 5) {
            throw new BrokenLetter();
        }
        if (kind == 0 || kind > 2) {
            text.setLength(text.length() - 8);
            int total = 0;
            for (int k = 0; k < bytes.length - 1; k++) {
                total += bytes[k];
            }
            if ((total + bytes[bytes.length - 1]) % 256 != 255) {
                throw new BrokenLetter();
            }
        }
        Tape tape = new Tape(text.toString());
        tape.next(3);
        int flow = (int) tape.next(3);
        int number = (int) tape.next(16);
        if (kind > 2) {
            end(tape);
            return answered(kind, flows[flow], number);
        }
        return arrived(kind, flow, number, tape);
    }

    private static void end(Tape tape) throws BrokenLetter {
        String rest = tape.bits.substring(tape.at);
        if (rest.length() > 7 || rest.contains("1")) {
            throw new BrokenLetter();
        }
    }

    private static int answered(int kind, Flow flow, int number) {
        if (kind == 3) {
            for (Head r : flow.references) {
                if (r.number() % 65536 == number) {
                    flow.references.removeIf(older -> older.number() < r.number());
                    return 6;
                }
            }
            return 7;
        }
        if (flow.owes) {
            return 7;
        }
        flow.owes = true;
        return 6;
    }

    private int arrived(int kind, int flow, int number, Tape tape) throws BrokenLetter {
        int round = (int) tape.next(4);
        int[] strides = {1, 1, 1, 1, 1, 1, 1, 1};
        int[] lengths = new int[8];
        Long[] told = new Long[8];
        for (int f = 0; f < plan.size(); f++) {
            Field field = plan.get(f);
            lengths[f] = -1;
            if (kind == 0 || field.kind() == 4 || (kind == 1 && tape.next(1) == 1)) {
                told[f] = tape.next(field.width());
            }
            if (kind == 0 && field.strided()) {
                strides[f] = (int) tape.next(8);
            }
            if (kind == 2 && field.strided()) {
                lengths[f] = (int) tape.next(6);
                if (lengths[f] > field.width()) {
                    throw new BrokenLetter();
                }
                told[f] = tape.next(lengths[f]);
            }
        }
        long sum = kind == 0 ? -1 : tape.next(8);
        end(tape);
        Context context = contexts[flow];
        if (kind != 0 && (context == null || context.round() != round)) {
            return 3;
        }
        if (context != null && number <= context.head().number()) {
            return 1;
        }
        if (kind != 0 && number > context.head().number() + w) {
            return 2;
        }
        List<Long> values = new ArrayList<>();
        List<Integer> ways = new ArrayList<>();
        for (int f = 0; f < plan.size(); f++) {
            long g = kind == 0 ? 0 : given(f, context.head(), context.strides(), number, values);
            ways.add(told[f] == null ? 0 : lengths[f] >= 0 ? 1 : 2);
            values.add(told[f] == null ? g : lengths[f] >= 0 ? found(f, g, lengths[f], told[f]) : told[f]);
        }
        if (kind != 0 && sum(values) != sum) {
            return 4;
        }
        got = new Head(number, values);
        gotWays = ways;
        gotFlow = flow;
        gotFrom = kind == 0 ? -1 : context.head().number();
        gotCount++;
        contexts[flow] = kind == 0 ? new Context(got, round, strides) : new Context(got, round, context.strides());
        return 0;
    }

    int lose(int l) {
        if (!underWay(l)) {
            return -1;
        }
        letters.get(l).lost = true;
        return 0;
    }

    int twice(int l) {
        if (!underWay(l)) {
            return -1;
        }
        if (letters.size() == 200) {
            return -2;
        }
        Letter old = letters.get(l);
        Letter twin = new Letter();
        twin.kind = old.kind;
        twin.flow = old.flow;
        twin.number = old.number;
        twin.bits = old.bits;
        twin.bytes = old.bytes.clone();
        twin.copy = true;
        letters.add(twin);
        return letters.size() - 1;
    }

    int bend(int l, int k, int mask) {
        if (!underWay(l) || k < 0 || k >= letters.get(l).bytes.length || mask < 1 || mask > 255) {
            return -1;
        }
        return letters.get(l).bytes[k] ^= mask;
    }

    int octet(int l, int k) {
        return !exists(l) || k < 0 || k >= letters.get(l).bytes.length ? -1 : letters.get(l).bytes[k];
    }

    int look(int l, int what) {
        if (!exists(l) || what < 0 || what > 6) {
            return -1;
        }
        Letter a = letters.get(l);
        int[] answers = {a.kind, a.flow, a.number, a.bytes.length, a.bits, a.outcome, a.lost ? 1 : 0};
        return answers[what];
    }

    int prove(int l, int field, int what) {
        if (!exists(l) || letters.get(l).proofs == null || !isField(field) || what < 0 || what > 3) {
            return -1;
        }
        int[] proof = letters.get(l).proofs[field];
        return proof == null ? -1 : proof[what];
    }

    long got(int field) {
        return !isField(field) ? -1 : got == null ? -2 : got.values().get(field);
    }

    int way(int field) {
        return !isField(field) ? -1 : got == null ? -2 : gotWays.get(field);
    }

    int hung(int what) {
        return switch (what) {
            case 0 -> got == null ? -2 : gotFlow;
            case 1 -> got == null ? -2 : got.number();
            case 2 -> got == null ? -2 : gotFrom;
            case 3 -> gotCount;
            default -> -1;
        };
    }

    int context(int flow, int what) {
        if (!upTo7(flow) || what < 0 || what > 2) {
            return -1;
        }
        Context context = contexts[flow];
        if (what == 0) {
            return context == null ? 0 : 1;
        }
        return context == null ? -2 : what == 1 ? context.head().number() : context.round();
    }

    long known(int flow, int field, boolean strides) {
        if (!upTo7(flow) || !isField(field)) {
            return -1;
        }
        if (contexts[flow] == null) {
            return -2;
        }
        return strides ? contexts[flow].strides()[field] : contexts[flow].head().values().get(field);
    }

    int squeezer(int flow, int what) {
        if (!upTo7(flow)) {
            return -1;
        }
        Flow of = flows[flow];
        return switch (what) {
            case 0 -> of.number;
            case 1 -> of.round;
            case 2 -> of.references.size();
            case 3 -> of.references.isEmpty() ? -2 : of.references.get(0).number();
            case 4 -> of.owes ? 1 : 0;
            default -> -1;
        };
    }

    int forget(int flow, int end) {
        if (!upTo7(flow) || (end != 0 && end != 1)) {
            return -1;
        }
        boolean anything = end == 1 ? contexts[flow] != null : !flows[flow].references.isEmpty();
        if (end == 1) {
            contexts[flow] = null;
        } else {
            flows[flow].references.clear();
            flows[flow].owes = true;
        }
        return anything ? 1 : 0;
    }

    long spent(int flow, int kind, int what) {
        if (!upTo7(flow) || kind < 0 || kind > 5 || what < 0 || what > 2) {
            return -1;
        }
        int whole = 26;
        for (Field field : plan) {
            whole += field.width() + (field.strided() ? 8 : 0);
        }
        long total = 0;
        for (Letter letter : letters) {
            if (letter.flow == flow && letter.kind == kind && !letter.copy) {
                total += what == 0 ? 1 : what == 1 ? letter.bits : kind < 3 ? whole - letter.bits : 0;
            }
        }
        return total;
    }

    int keep(int s, int what, int k) {
        if (!upTo7(s) || what < 0 || what > 4) {
            return -1;
        }
        if ((what == 1 || what == 2) && !exists(k)) {
            return -1;
        }
        if ((what == 3 || what == 4) && (!upTo7(k) || (what == 4 && contexts[k] == null))) {
            return -1;
        }
        shelves[s] = switch (what) {
            case 1 -> new Kept(1, letters.get(k), null);
            case 2 -> new Kept(2, null, Arrays.stream(letters.get(k).bytes).asLongStream().toArray());
            case 3 -> new Kept(3, null, flows[k].references.stream().mapToLong(Head::number).toArray());
            case 4 -> new Kept(4, null, contexts[k].head().values().stream().mapToLong(v -> v).toArray());
            default -> null;
        };
        return 0;
    }

    int make(int s, int what, int n) {
        if (!upTo7(s) || what < 2 || what > 4 || n > 60) {
            return -1;
        }
        if (n < 0) {
            return -14;
        }
        shelves[s] = new Kept(what, null, new long[n]);
        return 0;
    }

    long put(int s, int i, int v) {
        if (!upTo7(s) || v < 0 || v > 30000) {
            return -1;
        }
        if (shelves[s] == null) {
            return -11;
        }
        long[] row = shelves[s].row();
        if (row == null) {
            return -12;
        }
        if (i < 0 || i >= row.length) {
            return -13;
        }
        long was = row[i];
        row[i] = v;
        return was;
    }

    int copy(int s, int i, int t, int j, int n) {
        if (!upTo7(s) || !upTo7(t)) {
            return -1;
        }
        if (shelves[s] == null || shelves[t] == null) {
            return -11;
        }
        if (shelves[s].what() == 1 || shelves[t].what() == 1 || shelves[s].what() != shelves[t].what()) {
            return -12;
        }
        long[] before = shelves[s].row().clone();
        long[] to = shelves[t].row();
        if (n < 0 || i < 0 || j < 0 || (long) i + n > before.length || (long) j + n > to.length) {
            return -13;
        }
        for (int k = 0; k < n; k++) {
            to[j + k] = before[i + k];
        }
        return n;
    }

    int worth(int s) {
        if (!upTo7(s)) {
            return -1;
        }
        if (shelves[s] == null) {
            return -11;
        }
        Letter letter = shelves[s].letter();
        if (letter == null) {
            return -12;
        }
        int worth = letter.bytes.length * 10 + letter.kind;
        worth += letter.kind == 1 || letter.kind == 2 ? 3 : 0;
        worth *= letter.kind == 2 ? 2 : 1;
        worth += letter.kind > 2 ? 1 : 0;
        worth += letter.kind > 3 ? 5 : 0;
        return letter.kind == 5 ? worth * 3 : worth;
    }

    int toss(int s) {
        int refusal = worth(s);
        if (refusal < 0) {
            return refusal;
        }
        int kind = shelves[s].letter().kind;
        return kind == 0 || kind == 3 ? -15 : kind;
    }

    int count(int what) {
        return switch (what) {
            case 0 -> plan.size();
            case 1 -> letters.size();
            case 2 -> w;
            case 3 -> (int) letters.stream().filter(letter -> letter.lost).count();
            default -> -1;
        };
    }
}
