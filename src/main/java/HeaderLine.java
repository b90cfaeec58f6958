import java.util.Arrays;

/**
 * Two ends of a line that costs by the bit: the SQUEEZER tells headers of like packets by as few
 * bits as the OPENER needs to bring them back. README.md says how to use it; the promises stand in
 * the project's document.
 */
public final class HeaderLine {
    private static final int STILL = 0;
    private static final int TIED = 1;
    private static final int RUNNING = 2;
    private static final int CLOCKED = 3;
    private static final int FREE = 4;

    private static final int WHOLE = 0;
    private static final int PART = 1;
    private static final int SHORT = 2;
    private static final int ACK = 3;
    private static final int NACK = 4;
    private static final int STALE = 5;

    private static final int TAKEN = 0;
    private static final int LATE = 1;
    private static final int FAR = 2;
    private static final int NONE = 3;
    private static final int UNLIKE = 4;
    private static final int BROKEN = 5;
    private static final int HEEDED = 6;
    private static final int UNHEEDED = 7;

    private static final int AS_GIVEN = 0;
    private static final int FOUND = 1;
    private static final int STOOD = 2;

    private static final int NOTHING = 0;
    private static final int A_LETTER = 1;
    private static final int SHORTS = 2;
    private static final int INTS = 3;
    private static final int LONGS = 4;

    private static final int FIELDS_AT_MOST = 8;
    private static final int WIDTH_AT_MOST = 32;
    private static final int SCALE_AT_MOST = 1000;
    private static final int STRIDE_AT_MOST = 255;
    private static final int FLOWS = 8;
    private static final int WINDOW_AT_MOST = 8;
    private static final int LETTERS_AT_MOST = 200;
    private static final int SHELVES = 8;
    private static final int ROW_AT_MOST = 60;
    private static final int VALUE_AT_MOST = 30000;

    private static final int KIND_BITS = 3;
    private static final int FLOW_BITS = 3;
    private static final int NUMBER_BITS = 16;
    private static final int ROUND_BITS = 4;
    private static final int STRIDE_BITS = 8;
    private static final int LENGTH_BITS = 6;
    private static final int SUM_BITS = 8;
    private static final int NUMBERS = 65536;
    private static final int ROUNDS = 16;

    private static final int NO_SUCH = -1;
    private static final int FULL = -2;
    private static final int ABSENT = -2;
    private static final int NOT_NOW = -3;
    private static final int NOTHING_HELD = -11;
    private static final int OTHER_KIND = -12;
    private static final int NO_PLACE = -13;
    private static final int SIZE_BELOW_0 = -14;
    private static final int NO_FAILURE = -15;

    private final int window;
    private final Plan plan;
    private final Header draft;
    private final Squeezer[] squeezers;
    private final Context[] contexts;
    private final Letter[] letters;
    private final Shelf[] shelves;
    private final Pen pen;
    private final Arrival arrival;
    private final Got latest;
    private int letterCount;
    private int lostCount;

    public HeaderLine(int w) {
        window = 1 + Math.floorMod(w, WINDOW_AT_MOST);
        plan = new Plan();
        draft = new Header();
        squeezers = new Squeezer[FLOWS];
        contexts = new Context[FLOWS];
        for (int flow = 0; flow < FLOWS; flow++) {
            squeezers[flow] = new Squeezer();
            contexts[flow] = new Context();
        }
        letters = new Letter[LETTERS_AT_MOST];
        shelves = new Shelf[SHELVES];
        for (int s = 0; s < SHELVES; s++) {
            shelves[s] = new Shelf();
        }
        pen = new Pen();
        arrival = new Arrival();
        latest = new Got();
    }

    public int field(int kind, int width, int a, int b) {
        if (!plan.allows(kind, width, a, b)) {
            return NO_SUCH;
        }
        if (plan.size >= FIELDS_AT_MOST) {
            return FULL;
        }
        if (letterCount > 0) {
            return NOT_NOW;
        }
        return plan.append(kind, width, a, b);
    }

    public long set(int field, long value) {
        if (!plan.has(field)) {
            return NO_SUCH;
        }
        long was = draft.values[field];
        draft.values[field] = plan.lowBits(field, value);
        return was;
    }

    public int stride(int flow, int field, int s) {
        if (!isFlow(flow) || !plan.hasStride(field) || s < 0 || s > STRIDE_AT_MOST) {
            return NO_SUCH;
        }
        Squeezer squeezer = squeezers[flow];
        int was = squeezer.strides[field];
        squeezer.strides[field] = s;
        squeezer.owes = true;
        return was;
    }

    public int send(int flow, boolean whole) {
        if (!isFlow(flow)) {
            return NO_SUCH;
        }
        if (isLineFull()) {
            return FULL;
        }
        if (plan.size == 0) {
            return NOT_NOW;
        }
        Squeezer squeezer = squeezers[flow];
        draft.number = squeezer.number;
        int kind = squeezer.kindFor(plan, draft, whole);
        pen.begin(kind, flow, draft.number);
        Proof proof = null;
        if (kind == WHOLE) {
            squeezer.beginRound();
            squeezer.writeWhole(plan, draft, pen);
        } else if (kind == PART) {
            squeezer.writePart(plan, draft, pen);
        } else {
            proof = new Proof();
            squeezer.writeShort(plan, draft, pen, proof);
        }
        squeezer.remember(draft, window);
        return addWritten(kind, flow, draft.number, proof);
    }

    public int ack(int flow) {
        if (!isFlow(flow)) {
            return NO_SUCH;
        }
        if (isLineFull()) {
            return FULL;
        }
        if (!contexts[flow].isThere) {
            return NOT_NOW;
        }
        return addAnswer(ACK, flow, contexts[flow].header.number);
    }

    public int nack(int flow) {
        if (!isFlow(flow)) {
            return NO_SUCH;
        }
        if (isLineFull()) {
            return FULL;
        }
        if (!contexts[flow].isThere) {
            return addAnswer(STALE, flow, 0);
        }
        return addAnswer(NACK, flow, contexts[flow].header.number + 1);
    }

    public int deliver(int l) {
        Letter letter = letterUnderWay(l);
        if (letter == null) {
            return NO_SUCH;
        }
        letter.outcome = outcomeOf(letter.bytes);
        return letter.outcome;
    }

    public int lose(int l) {
        Letter letter = letterUnderWay(l);
        if (letter == null) {
            return NO_SUCH;
        }
        letter.isLost = true;
        lostCount++;
        return 0;
    }

    public int twice(int l) {
        Letter letter = letterUnderWay(l);
        if (letter == null) {
            return NO_SUCH;
        }
        if (isLineFull()) {
            return FULL;
        }
        int[] bytes = Arrays.copyOf(letter.bytes, letter.bytes.length);
        Letter twin = new Letter(letter.kind, letter.flow, letter.number, bytes, letter.bits);
        twin.isCopy = true;
        return add(twin);
    }

    public int bend(int l, int k, int mask) {
        Letter letter = letterUnderWay(l);
        if (letter == null || !letter.hasByte(k) || mask < 1 || mask > 255) {
            return NO_SUCH;
        }
        letter.bytes[k] ^= mask;
        return letter.bytes[k];
    }

    public int octet(int l, int k) {
        Letter letter = letterAt(l);
        if (letter == null || !letter.hasByte(k)) {
            return NO_SUCH;
        }
        return letter.bytes[k];
    }

    public int look(int l, int what) {
        Letter letter = letterAt(l);
        if (letter == null) {
            return NO_SUCH;
        }
        switch (what) {
            case 0:
                return letter.kind;
            case 1:
                return letter.flow;
            case 2:
                return letter.number;
            case 3:
                return letter.bytes.length;
            case 4:
                return letter.bits;
            case 5:
                return letter.outcome;
            case 6:
                return letter.isLost ? 1 : 0;
            default:
                return NO_SUCH;
        }
    }

    public int prove(int l, int field, int what) {
        Letter letter = letterAt(l);
        if (letter == null || letter.proof == null || !plan.hasStride(field)) {
            return NO_SUCH;
        }
        Proof proof = letter.proof;
        switch (what) {
            case 0:
                return proof.lengths[field];
            case 1:
                return proof.misses[field];
            case 2:
                return proof.references;
            case 3:
                return proof.oldest;
            default:
                return NO_SUCH;
        }
    }

    public long got(int field) {
        if (!plan.has(field)) {
            return NO_SUCH;
        }
        return latest.total == 0 ? ABSENT : latest.header.values[field];
    }

    public int way(int field) {
        if (!plan.has(field)) {
            return NO_SUCH;
        }
        return latest.total == 0 ? ABSENT : latest.ways[field];
    }

    public int hung(int what) {
        if (what < 0 || what > 3) {
            return NO_SUCH;
        }
        if (what == 3) {
            return latest.total;
        }
        if (latest.total == 0) {
            return ABSENT;
        }
        switch (what) {
            case 0:
                return latest.flow;
            case 1:
                return latest.header.number;
            default:
                return latest.hungOn;
        }
    }

    public int context(int flow, int what) {
        if (!isFlow(flow) || what < 0 || what > 2) {
            return NO_SUCH;
        }
        Context context = contexts[flow];
        if (what == 0) {
            return context.isThere ? 1 : 0;
        }
        if (!context.isThere) {
            return ABSENT;
        }
        return what == 1 ? context.header.number : context.round;
    }

    public long known(int flow, int field, boolean strides) {
        if (!isFlow(flow) || !plan.has(field)) {
            return NO_SUCH;
        }
        Context context = contexts[flow];
        if (!context.isThere) {
            return ABSENT;
        }
        return strides ? context.strides[field] : context.header.values[field];
    }

    public int squeezer(int flow, int what) {
        if (!isFlow(flow)) {
            return NO_SUCH;
        }
        Squeezer squeezer = squeezers[flow];
        switch (what) {
            case 0:
                return squeezer.number;
            case 1:
                return squeezer.round;
            case 2:
                return squeezer.held;
            case 3:
                return squeezer.oldestNumber();
            case 4:
                return squeezer.owes ? 1 : 0;
            default:
                return NO_SUCH;
        }
    }

    public int forget(int flow, int end) {
        if (!isFlow(flow) || end < 0 || end > 1) {
            return NO_SUCH;
        }
        boolean anything;
        if (end == 1) {
            anything = contexts[flow].isThere;
            contexts[flow].isThere = false;
        } else {
            anything = squeezers[flow].held > 0;
            squeezers[flow].held = 0;
            squeezers[flow].owes = true;
        }
        return anything ? 1 : 0;
    }

    public long spent(int flow, int kind, int what) {
        if (!isFlow(flow) || kind < WHOLE || kind > STALE || what < 0 || what > 2) {
            return NO_SUCH;
        }
        long made = 0;
        long bits = 0;
        for (int l = 0; l < letterCount; l++) {
            Letter letter = letters[l];
            if (letter != null && !letter.isCopy && letter.kind == kind && letter.flow == flow) {
                made++;
                bits += letter.bits;
            }
        }
        if (what == 0) {
            return made;
        }
        if (what == 1) {
            return bits;
        }
        return kind > SHORT ? 0 : made * plan.wholeBits() - bits;
    }

    public int keep(int s, int what, int k) {
        if (!isShelf(s)) {
            return NO_SUCH;
        }
        Shelf shelf = shelves[s];
        switch (what) {
            case NOTHING:
                shelf.holds = NOTHING;
                return 0;
            case A_LETTER:
            case SHORTS:
                return keepLetter(shelf, what, letterAt(k));
            case INTS:
                return keepReferences(shelf, k);
            case LONGS:
                return keepContext(shelf, k);
            default:
                return NO_SUCH;
        }
    }

    public int make(int s, int what, int n) {
        if (!isShelf(s) || what < SHORTS || what > LONGS || n > ROW_AT_MOST) {
            return NO_SUCH;
        }
        if (n < 0) {
            return SIZE_BELOW_0;
        }
        shelves[s].holdRow(what, n);
        return 0;
    }

    public long put(int s, int i, int v) {
        if (!isShelf(s) || v < 0 || v > VALUE_AT_MOST) {
            return NO_SUCH;
        }
        Shelf shelf = shelves[s];
        if (shelf.holds == NOTHING) {
            return NOTHING_HELD;
        }
        if (shelf.holds == A_LETTER) {
            return OTHER_KIND;
        }
        if (!shelf.hasPlaces(i, 1)) {
            return NO_PLACE;
        }
        long was = shelf.row[i];
        shelf.row[i] = v;
        return was;
    }

    public int copy(int s, int i, int t, int j, int n) {
        if (!isShelf(s) || !isShelf(t)) {
            return NO_SUCH;
        }
        Shelf from = shelves[s];
        Shelf to = shelves[t];
        if (from.holds == NOTHING || to.holds == NOTHING) {
            return NOTHING_HELD;
        }
        if (from.holds == A_LETTER || from.holds != to.holds) {
            return OTHER_KIND;
        }
        if (!from.hasPlaces(i, n) || !to.hasPlaces(j, n)) {
            return NO_PLACE;
        }
        System.arraycopy(from.row, i, to.row, j, n);
        return n;
    }

    public int worth(int s) {
        int refusal = refusalOfLetterOn(s);
        if (refusal != 0) {
            return refusal;
        }
        int kind = shelves[s].letterKind;
        int plain = shelves[s].letterBytes * 10 + kind;
        switch (kind) {
            case PART:
                return plain + 3;
            case SHORT:
                return (plain + 3) * 2;
            case ACK:
                return plain + 1;
            case NACK:
                return plain + 1 + 5;
            case STALE:
                return (plain + 1 + 5) * 3;
            default:
                return plain;
        }
    }

    public int toss(int s) {
        int refusal = refusalOfLetterOn(s);
        if (refusal != 0) {
            return refusal;
        }
        // The language rules leave no throw: what a thrown FAILURE would tell is answered at once.
        int kind = shelves[s].letterKind;
        return kind == WHOLE || kind == ACK ? NO_FAILURE : kind;
    }

    public int count(int what) {
        switch (what) {
            case 0:
                return plan.size;
            case 1:
                return letterCount;
            case 2:
                return window;
            case 3:
                return lostCount;
            default:
                return NO_SUCH;
        }
    }

    private static boolean isFlow(int flow) {
        return flow >= 0 && flow < FLOWS;
    }

    private static boolean isShelf(int s) {
        return s >= 0 && s < SHELVES;
    }

    private boolean isLineFull() {
        return letterCount >= LETTERS_AT_MOST;
    }

    private Letter letterAt(int l) {
        return l >= 0 && l < letterCount ? letters[l] : null;
    }

    private Letter letterUnderWay(int l) {
        Letter letter = letterAt(l);
        return letter == null || letter.isLost ? null : letter;
    }

    private int addAnswer(int kind, int flow, int number) {
        pen.begin(kind, flow, number);
        return addWritten(kind, flow, number, null);
    }

    private int addWritten(int kind, int flow, int number, Proof proof) {
        int[] bytes = pen.finished(endsInCheck(kind));
        Letter letter = new Letter(kind, flow, number % NUMBERS, bytes, pen.bits);
        letter.proof = proof;
        return add(letter);
    }

    private int add(Letter letter) {
        if (isLineFull()) {
            return FULL;
        }
        letters[letterCount] = letter;
        letterCount++;
        return letterCount - 1;
    }

    private int outcomeOf(int[] bytes) {
        if (!arrival.parse(plan, bytes) || !isFlow(arrival.flow)) {
            return BROKEN;
        }
        if (arrival.kind > SHORT) {
            return squeezers[arrival.flow].heed(arrival.kind, arrival.header.number);
        }
        return open(contexts[arrival.flow]);
    }

    private int open(Context context) {
        boolean isWhole = arrival.kind == WHOLE;
        if (!isWhole && (!context.isThere || context.round != arrival.round)) {
            return NONE;
        }
        int ahead = arrival.header.number - context.header.number;
        if (context.isThere && ahead <= 0) {
            return LATE;
        }
        if (!isWhole && ahead > window) {
            return FAR;
        }
        arrival.rebuild(plan, context);
        if (!isWhole && plan.sumOf(arrival.header) != arrival.sum) {
            return UNLIKE;
        }
        latest.accept(arrival, isWhole ? -1 : context.header.number);
        context.accept(arrival);
        return TAKEN;
    }

    private static int keepLetter(Shelf shelf, int what, Letter letter) {
        if (letter == null) {
            return NO_SUCH;
        }
        if (what == A_LETTER) {
            shelf.holdLetter(letter);
            return 0;
        }
        shelf.holdRow(SHORTS, letter.bytes.length);
        for (int i = 0; i < shelf.size; i++) {
            shelf.row[i] = letter.bytes[i];
        }
        return 0;
    }

    private int keepReferences(Shelf shelf, int flow) {
        if (!isFlow(flow)) {
            return NO_SUCH;
        }
        Squeezer squeezer = squeezers[flow];
        shelf.holdRow(INTS, squeezer.held);
        for (int i = 0; i < shelf.size; i++) {
            shelf.row[i] = squeezer.reference(i).number;
        }
        return 0;
    }

    private int keepContext(Shelf shelf, int flow) {
        if (!isFlow(flow) || !contexts[flow].isThere) {
            return NO_SUCH;
        }
        shelf.holdRow(LONGS, plan.size);
        for (int i = 0; i < shelf.size; i++) {
            shelf.row[i] = contexts[flow].header.values[i];
        }
        return 0;
    }

    private int refusalOfLetterOn(int s) {
        if (!isShelf(s)) {
            return NO_SUCH;
        }
        if (shelves[s].holds == NOTHING) {
            return NOTHING_HELD;
        }
        return shelves[s].holds == A_LETTER ? 0 : OTHER_KIND;
    }

    // PART and SHORT letters bear a SUM of the HEADER in place of a CHECK of their bytes.
    private static boolean endsInCheck(int kind) {
        return kind != PART && kind != SHORT;
    }

    private static int checkOf(int[] bytes, int length) {
        int sum = 0;
        for (int i = 0; i < length && i < bytes.length; i++) {
            sum += bytes[i];
        }
        return 255 - (sum & 255);
    }

    private static int wholeBytes(int bits) {
        return (bits + 7) >> 3;
    }

    private static long lowest(long value, int bits) {
        return value & ((1L << bits) - 1);
    }

    private static final class Header {
        final long[] values = new long[FIELDS_AT_MOST];
        int number;

        void become(Header other) {
            System.arraycopy(other.values, 0, values, 0, FIELDS_AT_MOST);
            number = other.number;
        }
    }

    private static final class Plan {
        final int[] kinds = new int[FIELDS_AT_MOST];
        final int[] widths = new int[FIELDS_AT_MOST];
        private final int[] ties = new int[FIELDS_AT_MOST];
        private final int[] extras = new int[FIELDS_AT_MOST];
        int size;

        boolean allows(int kind, int width, int a, int b) {
            if (kind < STILL || kind > FREE || width < 1 || width > WIDTH_AT_MOST) {
                return false;
            }
            if (kind == TIED) {
                return has(a);
            }
            return kind != CLOCKED || (b >= 1 && b <= SCALE_AT_MOST);
        }

        int append(int kind, int width, int a, int b) {
            if (size >= FIELDS_AT_MOST) {
                return FULL;
            }
            kinds[size] = kind;
            widths[size] = width;
            // Only a tie is ever looked up; another FIELD's a may be no index at all.
            ties[size] = kind == TIED ? a : 0;
            extras[size] = b;
            size++;
            return size - 1;
        }

        boolean has(int field) {
            return field >= 0 && field < size;
        }

        boolean hasStride(int field) {
            return has(field) && (kinds[field] == RUNNING || kinds[field] == CLOCKED);
        }

        long lowBits(int field, long value) {
            return lowest(value, widths[field]);
        }

        int wholeBits() {
            int bits = KIND_BITS + FLOW_BITS + NUMBER_BITS + ROUND_BITS;
            for (int f = 0; f < size; f++) {
                bits += widths[f] + (hasStride(f) ? STRIDE_BITS : 0);
            }
            return bits;
        }

        int sumOf(Header header) {
            long sum = 17;
            for (int f = 0; f < size; f++) {
                sum = lowest(sum * 31 + header.values[f], SUM_BITS);
            }
            return (int) sum;
        }

        /** The squeezer and the opener must reckon alike, so both ask here. */
        long given(int field, Header reference, int[] strides, Header coming) {
            long steps = (long) (coming.number - reference.number) * strides[field];
            switch (kinds[field]) {
                case STILL:
                    return reference.values[field];
                case TIED:
                    return lowBits(field, coming.values[ties[field]] + extras[field]);
                case RUNNING:
                    return lowBits(field, reference.values[field] + steps);
                case CLOCKED:
                    return lowBits(field, reference.values[field] + steps * extras[field]);
                default:
                    return 0;
            }
        }

        long found(int field, long given, int n, long value) {
            if (n < 1) {
                return given;
            }
            long lowestCandidate = given - (1L << (n - 1));
            return lowBits(field, lowestCandidate + lowest(value - lowestCandidate, n));
        }
    }

    private static final class Squeezer {
        final int[] strides = new int[FIELDS_AT_MOST];
        int number;
        int round;
        boolean owes = true;
        int held;
        private final Header[] ring = new Header[WINDOW_AT_MOST];
        private int first;

        Squeezer() {
            Arrays.fill(strides, 1);
            for (int i = 0; i < WINDOW_AT_MOST; i++) {
                ring[i] = new Header();
            }
        }

        /** The i-th oldest; the ring turns, so that every i has a place. */
        Header reference(int i) {
            return ring[Math.floorMod(first + i, WINDOW_AT_MOST)];
        }

        int oldestNumber() {
            return held == 0 ? ABSENT : reference(0).number;
        }

        int kindFor(Plan plan, Header header, boolean isWanted) {
            if (isWanted || owes || held == 0) {
                return WHOLE;
            }
            for (int f = 0; f < plan.size; f++) {
                boolean isFixed = plan.kinds[f] == STILL || plan.kinds[f] == TIED;
                if (isFixed && !isGivenByAll(plan, header, f)) {
                    return PART;
                }
            }
            return SHORT;
        }

        void beginRound() {
            round = (round + 1) % ROUNDS;
            held = 0;
            owes = false;
        }

        void writeWhole(Plan plan, Header header, Pen pen) {
            pen.write(round, ROUND_BITS);
            for (int f = 0; f < plan.size; f++) {
                pen.write(header.values[f], plan.widths[f]);
                if (plan.hasStride(f)) {
                    pen.write(strides[f], STRIDE_BITS);
                }
            }
        }

        void writePart(Plan plan, Header header, Pen pen) {
            pen.write(round, ROUND_BITS);
            for (int f = 0; f < plan.size; f++) {
                boolean isFree = plan.kinds[f] == FREE;
                boolean isTold = isFree || !isGivenByAll(plan, header, f);
                if (!isFree) {
                    pen.write(isTold ? 1 : 0, 1);
                }
                if (isTold) {
                    pen.write(header.values[f], plan.widths[f]);
                }
            }
            pen.write(plan.sumOf(header), SUM_BITS);
        }

        void writeShort(Plan plan, Header header, Pen pen, Proof proof) {
            proof.references = held;
            proof.oldest = oldestNumber();
            pen.write(round, ROUND_BITS);
            for (int f = 0; f < plan.size; f++) {
                if (plan.hasStride(f)) {
                    findLeast(plan, header, f, proof);
                    pen.write(proof.lengths[f], LENGTH_BITS);
                    pen.write(header.values[f], proof.lengths[f]);
                } else if (plan.kinds[f] == FREE) {
                    pen.write(header.values[f], plan.widths[f]);
                }
            }
            pen.write(plan.sumOf(header), SUM_BITS);
        }

        void remember(Header header, int window) {
            if (held >= window) {
                dropOldest(held - window + 1);
            }
            reference(held).become(header);
            held++;
            number++;
        }

        /** What an answer of the opener does here: the OUTCOME. */
        int heed(int kind, int answered) {
            if (kind != ACK) {
                boolean owedAlready = owes;
                owes = true;
                return owedAlready ? UNHEEDED : HEEDED;
            }
            for (int i = 0; i < held; i++) {
                if (reference(i).number % NUMBERS == answered) {
                    dropOldest(i);
                    return HEEDED;
                }
            }
            return UNHEEDED;
        }

        private void dropOldest(int n) {
            first = Math.floorMod(first + n, WINDOW_AT_MOST);
            held -= n;
        }

        private boolean isGivenByAll(Plan plan, Header header, int f) {
            return oldestMiss(plan, header, f, 0) == ABSENT;
        }

        /** The number of the oldest reference from which n bits don't find the value, or ABSENT. */
        private int oldestMiss(Plan plan, Header header, int f, int n) {
            long value = header.values[f];
            for (int i = 0; i < held; i++) {
                long given = plan.given(f, reference(i), strides, header);
                if (plan.found(f, given, n, value) != value) {
                    return reference(i).number;
                }
            }
            return ABSENT;
        }

        private void findLeast(Plan plan, Header header, int f, Proof proof) {
            int missOfOneLess = ABSENT;
            for (int n = 0; n <= plan.widths[f]; n++) {
                proof.lengths[f] = n;
                proof.misses[f] = missOfOneLess;
                missOfOneLess = oldestMiss(plan, header, f, n);
                if (missOfOneLess == ABSENT) {
                    return;
                }
            }
        }
    }

    /** What stays of the search for n, since the references it hung on go. */
    private static final class Proof {
        final int[] lengths = new int[FIELDS_AT_MOST];
        final int[] misses = new int[FIELDS_AT_MOST];
        int references;
        int oldest;
    }

    private static final class Letter {
        final int kind;
        final int flow;
        final int number;
        final int[] bytes;
        final int bits;
        int outcome = -1;
        boolean isLost;
        boolean isCopy;
        Proof proof;

        Letter(int kind, int flow, int number, int[] bytes, int bits) {
            this.kind = kind;
            this.flow = flow;
            this.number = number;
            this.bytes = bytes;
            this.bits = bits;
        }

        boolean hasByte(int k) {
            return k >= 0 && k < bytes.length;
        }
    }

    /** Writes one letter after another into the same bytes, so that only finished ones cost room. */
    private static final class Pen {
        private final int[] bytes = new int[ROW_AT_MOST];
        int bits;

        void begin(int kind, int flow, int number) {
            Arrays.fill(bytes, 0);
            bits = 0;
            write(kind, KIND_BITS);
            write(flow, FLOW_BITS);
            write(number, NUMBER_BITS);
        }

        void write(long value, int n) {
            for (int i = n - 1; i >= 0 && wholeBytes(bits + 1) <= bytes.length; i--) {
                int bit = (int) (value >> i) & 1;
                bytes[bits >> 3] |= bit << (7 - (bits & 7));
                bits++;
            }
        }

        int[] finished(boolean hasCheck) {
            int length = wholeBytes(bits);
            if (!hasCheck) {
                return Arrays.copyOf(bytes, length);
            }
            int[] row = Arrays.copyOf(bytes, length + 1);
            row[length] = checkOf(row, length);
            return row;
        }
    }

    /** A delivered letter as its bits tell it, which need not be as it was made. */
    private static final class Arrival {
        final Header header = new Header();
        final int[] strides = new int[FIELDS_AT_MOST];
        final int[] ways = new int[FIELDS_AT_MOST];
        private final int[] lengths = new int[FIELDS_AT_MOST];
        private final long[] told = new long[FIELDS_AT_MOST];
        int kind;
        int flow;
        int round;
        int sum;
        private int[] bytes = {};
        private int at;
        private boolean isBroken;

        /** False if it isn't a row of bits as told: what was read is of no use then. */
        boolean parse(Plan plan, int[] row) {
            bytes = row;
            at = 0;
            isBroken = false;
            kind = (int) read(KIND_BITS);
            flow = (int) read(FLOW_BITS);
            header.number = (int) read(NUMBER_BITS);
            if (kind > STALE) {
                return false;
            }
            if (kind <= SHORT) {
                round = (int) read(ROUND_BITS);
                for (int f = 0; f < plan.size; f++) {
                    readField(plan, f);
                }
            }
            if (!endsInCheck(kind)) {
                sum = (int) read(SUM_BITS);
            }
            return !isBroken && isEndRight();
        }

        void rebuild(Plan plan, Context context) {
            for (int f = 0; f < plan.size; f++) {
                long value = told[f];
                if (ways[f] != STOOD) {
                    long given = plan.given(f, context.header, context.strides, header);
                    value = ways[f] == FOUND ? plan.found(f, given, lengths[f], value) : given;
                }
                header.values[f] = value;
            }
        }

        private void readField(Plan plan, int f) {
            boolean isFree = plan.kinds[f] == FREE;
            if (kind == WHOLE || isFree) {
                readValue(f, STOOD, plan.widths[f]);
                strides[f] = plan.hasStride(f) ? (int) read(STRIDE_BITS) : 1;
            } else if (kind == PART) {
                boolean stands = read(1) == 1;
                readValue(f, stands ? STOOD : AS_GIVEN, stands ? plan.widths[f] : 0);
            } else if (plan.hasStride(f)) {
                int n = (int) read(LENGTH_BITS);
                isBroken = isBroken || n > plan.widths[f];
                readValue(f, FOUND, n);
            } else {
                readValue(f, AS_GIVEN, 0);
            }
        }

        private void readValue(int f, int way, int n) {
            ways[f] = way;
            lengths[f] = n;
            told[f] = read(n);
        }

        private long read(int n) {
            if (isBroken || at + n > bytes.length * 8) {
                isBroken = true;
                return 0;
            }
            long value = 0;
            for (int i = 0; i < n; i++) {
                value = value << 1 | (bytes[at >> 3] >> (7 - (at & 7)) & 1);
                at++;
            }
            return value;
        }

        private boolean isEndRight() {
            int end = wholeBytes(at);
            boolean hasCheck = endsInCheck(kind);
            if (bytes.length != end + (hasCheck ? 1 : 0)) {
                return false;
            }
            if (read(end * 8 - at) != 0) {
                return false;
            }
            return !hasCheck || bytes[end] == checkOf(bytes, end);
        }
    }

    private static final class Context {
        final Header header = new Header();
        final int[] strides = new int[FIELDS_AT_MOST];
        int round;
        boolean isThere;

        void accept(Arrival arrival) {
            header.become(arrival.header);
            isThere = true;
            if (arrival.kind == WHOLE) {
                round = arrival.round;
                System.arraycopy(arrival.strides, 0, strides, 0, FIELDS_AT_MOST);
            }
        }
    }

    private static final class Got {
        final Header header = new Header();
        final int[] ways = new int[FIELDS_AT_MOST];
        int flow;
        int hungOn;
        int total;

        void accept(Arrival arrival, int reference) {
            header.become(arrival.header);
            System.arraycopy(arrival.ways, 0, ways, 0, FIELDS_AT_MOST);
            flow = arrival.flow;
            hungOn = reference;
            total++;
        }
    }

    private static final class Shelf {
        // Every kind of ROW fits longs, and no call can see how wide an element is held.
        final long[] row = new long[ROW_AT_MOST];
        int holds;
        int size;
        int letterKind;
        int letterBytes;

        void holdLetter(Letter letter) {
            holds = A_LETTER;
            letterKind = letter.kind;
            letterBytes = letter.bytes.length;
        }

        void holdRow(int what, int n) {
            holds = what;
            size = Math.max(0, Math.min(n, ROW_AT_MOST));
            Arrays.fill(row, 0);
        }

        boolean hasPlaces(int i, int n) {
            return i >= 0 && n >= 0 && i <= size - n;
        }
    }
}
