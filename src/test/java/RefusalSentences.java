import java.util.ArrayList;
import java.util.List;
import java.util.function.Consumer;
import java.util.function.ToLongFunction;

/** Which of several refusals is answered, and that a refused call changes nothing. */
final class RefusalSentences extends Scene {
    private record Refused(String call, long answer, ToLongFunction<Line> caller) {
    }

    private record State(String name, Consumer<Line> builder, List<Refused> calls) {
    }

    private RefusalSentences() {
    }

    static void all() {
        Doc.terms("Answers of several refusals are the first one here: -1 no such thing, a number out of range, or not as"
                + " told; -2, -3, -11 to -15 as told.");
        for (State state : states()) {
            firstOfSeveral(state);
        }
        Doc.terms("A refused call changes nothing.");
        for (State state : states()) {
            changesNothing(state);
        }
    }

    private static List<State> states() {
        return List.of(
                new State("new", x -> { }, ofNew()),
                new State("of 8 FIELDS", RefusalSentences::eightFields, ofEightFields()),
                new State("without FIELDS, full", RefusalSentences::fill, ofFullWithoutFields()),
                new State("in use", RefusalSentences::use, ofUsed()),
                new State("in use, full", RefusalSentences::useAndFill, ofFull()));
    }

    private static void eightFields(Line x) {
        for (int f = 0; f < 8; f++) {
            x.field(f % 5 == 1 ? RUNNING : f % 5, 4 + f, 0, 1);
            x.set(f, 5 + f);
        }
    }

    /** Two FLOWS in use, LETTERS of each KIND, a lost one, a copy, a bent one, and something on SHELVES 1 to 4. */
    private static void use(Line x) {
        x.field(STILL, 8, 0, 0);
        x.field(TIED, 8, 0, 5);
        x.field(RUNNING, 16, 0, 0);
        x.field(CLOCKED, 20, 0, 10);
        x.field(FREE, 5, 0, 0);
        x.stride(0, 2, 3);
        for (int m = 0; m < 4; m++) {
            draft(x, m / 2, 5 + m / 2, 100 + 3 * m, 10 * m + m % 2, m);
            x.send(0, false);
        }
        x.send(1, false);
        for (int l = 0; l < 3; l++) {
            x.deliver(l);
        }
        x.ack(0);
        x.nack(0);
        x.nack(7);
        x.twice(3);
        x.lose(1);
        x.bend(4, 3, 5);
        x.keep(1, 1, 3);
        x.keep(2, 2, 0);
        x.keep(3, 3, 0);
        x.keep(4, 4, 0);
        draft(x, 9, 8, 7, 6, 5);
    }

    private static void useAndFill(Line x) {
        use(x);
        fill(x);
    }

    private static final class Calls {
        final List<Refused> list = new ArrayList<>();

        Calls add(String call, long answer, ToLongFunction<Line> caller) {
            list.add(new Refused(call, answer, caller));
            return this;
        }

        Calls addAll(List<Refused> more) {
            list.addAll(more);
            return this;
        }
    }

    private static List<Refused> ofNew() {
        return new Calls()
                .add("field, KIND 5", -1, x -> x.field(5, 8, 0, 0))
                .add("field, TIED to none", -1, x -> x.field(1, 8, 0, 0))
                .add("field, SCALE 0", -1, x -> x.field(3, 8, 0, 0))
                .add("set, no FIELD", -1, x -> x.set(0, 5))
                .add("stride, no FIELD", -1, x -> x.stride(0, 0, 5))
                .add("send, no FIELDS", -3, x -> x.send(0, true))
                .add("send, no FLOW, no FIELDS", -1, x -> x.send(8, true))
                .add("ack, no CONTEXT", -3, x -> x.ack(0))
                .add("ack, no FLOW, no CONTEXT", -1, x -> x.ack(-1))
                .add("nack, no FLOW", -1, x -> x.nack(8))
                .add("deliver, none", -1, x -> x.deliver(0))
                .add("lose, none", -1, x -> x.lose(0))
                .add("twice, none", -1, x -> x.twice(0))
                .add("bend, none", -1, x -> x.bend(0, 0, 1))
                .add("got, no FIELD, none was", -1, x -> x.got(0))
                .add("way, no FIELD, none was", -1, x -> x.way(0))
                .add("hung, another what, none was", -1, x -> x.hung(4))
                .add("hung, none was", -2, x -> x.hung(0))
                .add("known, no FIELD, no CONTEXT", -1, x -> x.known(0, 0, false))
                .add("context, another what, no CONTEXT", -1, x -> x.context(0, 3))
                .add("keep, no LETTER", -1, x -> x.keep(0, 1, 0))
                .add("keep, no CONTEXT", -1, x -> x.keep(0, 4, 0))
                .add("make, what 1, n -1", -1, x -> x.make(0, 1, -1))
                .add("make, n -1", -14, x -> x.make(0, 2, -1))
                .add("put, nothing, no place", -11, x -> x.put(0, -1, 1))
                .add("copy, nothing, n -1", -11, x -> x.copy(0, 0, 1, 0, -1))
                .list;
    }

    private static List<Refused> ofEightFields() {
        return new Calls()
                .add("field, a ninth", -2, x -> x.field(0, 8, 0, 0))
                .add("field, a ninth of WIDTH 33", -1, x -> x.field(0, 33, 0, 0))
                .add("field, a ninth TIED to itself", -1, x -> x.field(1, 8, 8, 0))
                .add("field, a ninth of SCALE 1001", -1, x -> x.field(3, 8, 0, 1001))
                .add("set, FIELD 8", -1, x -> x.set(8, 1))
                .add("stride, STILL", -1, x -> x.stride(0, 0, 7))
                .add("stride, s 256", -1, x -> x.stride(0, 1, 256))
                .add("stride, FLOW 8", -1, x -> x.stride(8, 1, 7))
                .add("send, FLOW 8", -1, x -> x.send(8, false))
                .add("got, none was", -2, x -> x.got(0))
                .add("way, none was", -2, x -> x.way(7))
                .add("got, FIELD 8, none was", -1, x -> x.got(8))
                .add("known, no CONTEXT", -2, x -> x.known(0, 0, true))
                .add("known, FLOW 8, no CONTEXT", -1, x -> x.known(8, 0, true))
                .list;
    }

    private static List<Refused> ofFullWithoutFields() {
        return new Calls()
                .add("field, closed", -3, x -> x.field(0, 8, 0, 0))
                .add("field, KIND 5, closed", -1, x -> x.field(5, 8, 0, 0))
                .add("send, full, no FIELDS", -2, x -> x.send(0, true))
                .add("send, no FLOW, full, no FIELDS", -1, x -> x.send(8, true))
                .add("ack, full, no CONTEXT", -2, x -> x.ack(0))
                .add("ack, no FLOW, full, no CONTEXT", -1, x -> x.ack(8))
                .add("nack, full", -2, x -> x.nack(0))
                .add("nack, no FLOW, full", -1, x -> x.nack(8))
                .add("twice, full", -2, x -> x.twice(0))
                .add("twice, none, full", -1, x -> x.twice(200))
                .list;
    }

    private static List<Refused> ofUsed() {
        return new Calls()
                .add("field, closed", -3, x -> x.field(2, 8, 0, 0))
                .add("field, WIDTH 0, closed", -1, x -> x.field(2, 0, 0, 0))
                .add("set, FIELD 5", -1, x -> x.set(5, 77))
                .add("set, FIELD -1", -1, x -> x.set(-1, 77))
                .add("stride, FLOW -1", -1, x -> x.stride(-1, 2, 9))
                .add("stride, TIED", -1, x -> x.stride(0, 1, 9))
                .add("stride, FREE", -1, x -> x.stride(0, 4, 9))
                .add("stride, s -1", -1, x -> x.stride(0, 2, -1))
                .add("send, FLOW -1", -1, x -> x.send(-1, true))
                .add("ack, FLOW 8", -1, x -> x.ack(8))
                .add("ack, no CONTEXT", -3, x -> x.ack(1))
                .add("nack, FLOW -1", -1, x -> x.nack(-1))
                .add("deliver, lost", -1, x -> x.deliver(1))
                .add("deliver, none", -1, x -> x.deliver(9))
                .add("lose, lost", -1, x -> x.lose(1))
                .add("lose, none", -1, x -> x.lose(9))
                .add("twice, lost", -1, x -> x.twice(1))
                .add("twice, none", -1, x -> x.twice(-1))
                .add("bend, lost", -1, x -> x.bend(1, 0, 1))
                .add("bend, mask 0", -1, x -> x.bend(0, 0, 0))
                .add("bend, mask 256", -1, x -> x.bend(0, 0, 256))
                .add("bend, no byte", -1, x -> x.bend(0, 14, 1))
                .add("octet, no byte", -1, x -> x.octet(0, 14))
                .add("look, what 7", -1, x -> x.look(0, 7))
                .add("prove, WHOLE", -1, x -> x.prove(0, 2, 0))
                .add("got, FIELD 5", -1, x -> x.got(5))
                .add("way, FIELD 5", -1, x -> x.way(5))
                .add("hung, what 4", -1, x -> x.hung(4))
                .add("context, FLOW 8", -1, x -> x.context(8, 0))
                .add("known, FIELD 5, no CONTEXT", -1, x -> x.known(1, 5, false))
                .add("known, no CONTEXT", -2, x -> x.known(1, 4, false))
                .add("squeezer, what 5", -1, x -> x.squeezer(0, 5))
                .add("forget, end 2", -1, x -> x.forget(0, 2))
                .add("forget, end -1", -1, x -> x.forget(0, -1))
                .add("forget, FLOW 8, end 0", -1, x -> x.forget(8, 0))
                .add("forget, FLOW 8, end 1", -1, x -> x.forget(8, 1))
                .add("spent, KIND 6", -1, x -> x.spent(0, 6, 0))
                .add("count, what 4", -1, x -> x.count(4))
                .addAll(ofUsedShelves())
                .list;
    }

    private static List<Refused> ofUsedShelves() {
        return new Calls()
                .add("keep, SHELF 8", -1, x -> x.keep(8, 0, 0))
                .add("keep, what 5", -1, x -> x.keep(2, 5, 0))
                .add("keep, no LETTER", -1, x -> x.keep(2, 1, 9))
                .add("keep, no LETTER's bytes", -1, x -> x.keep(1, 2, 9))
                .add("keep, FLOW 8's references", -1, x -> x.keep(2, 3, 8))
                .add("keep, FLOW -1's CONTEXT", -1, x -> x.keep(2, 4, -1))
                .add("keep, no CONTEXT", -1, x -> x.keep(2, 4, 1))
                .add("make, SHELF 8", -1, x -> x.make(8, 2, 4))
                .add("make, SHELF -1, n -1", -1, x -> x.make(-1, 2, -1))
                .add("make, what 5, n -1", -1, x -> x.make(2, 5, -1))
                .add("make, n 61", -1, x -> x.make(2, 2, 61))
                .add("make, n -1", -14, x -> x.make(2, 2, -1))
                .add("make on a LETTER, n -1", -14, x -> x.make(1, 2, -1))
                .add("put, SHELF 8, v -1", -1, x -> x.put(8, 0, -1))
                .add("put, v 30001, nothing", -1, x -> x.put(0, 0, 30001))
                .add("put, v -1, a LETTER", -1, x -> x.put(1, 0, -1))
                .add("put, v 30001, no place", -1, x -> x.put(2, -1, 30001))
                .add("put, v 30001", -1, x -> x.put(2, 0, 30001))
                .add("put, nothing, no place", -11, x -> x.put(0, 60, 1))
                .add("put, a LETTER, no place", -12, x -> x.put(1, -1, 1))
                .add("put, no place", -13, x -> x.put(2, 14, 1))
                .add("copy, SHELF 8, nothing", -1, x -> x.copy(0, 0, 8, 0, 1))
                .add("copy, SHELF 8, a LETTER", -1, x -> x.copy(8, 0, 1, 0, 1))
                .add("copy, SHELF -1, n -1", -1, x -> x.copy(-1, 0, 2, 0, -1))
                .add("copy, nothing, a LETTER", -11, x -> x.copy(0, 0, 1, 0, 1))
                .add("copy, a LETTER, nothing", -11, x -> x.copy(1, 0, 0, 0, 1))
                .add("copy, nothing, n -1", -11, x -> x.copy(2, 0, 0, 0, -1))
                .add("copy, a LETTER, n -1", -12, x -> x.copy(1, 0, 2, 0, -1))
                .add("copy, to a LETTER, i -1", -12, x -> x.copy(2, -1, 1, 0, 1))
                .add("copy, not of one kind, j -1", -12, x -> x.copy(2, 0, 3, -1, 1))
                .add("copy, not of one kind", -12, x -> x.copy(3, 0, 2, 0, 1))
                .add("copy, i beyond", -13, x -> x.copy(2, 14, 2, 0, 1))
                .add("copy, j beyond", -13, x -> x.copy(2, 0, 2, 13, 2))
                .add("worth, SHELF 8", -1, x -> x.worth(8))
                .add("toss, a ROW", -12, x -> x.toss(2))
                .list;
    }

    private static List<Refused> ofFull() {
        return new Calls()
                .add("field, closed", -3, x -> x.field(0, 8, 0, 0))
                .add("send, full", -2, x -> x.send(0, false))
                .add("send, full, wanted", -2, x -> x.send(1, true))
                .add("send, no FLOW, full", -1, x -> x.send(8, true))
                .add("ack, full", -2, x -> x.ack(0))
                .add("ack, full, no CONTEXT", -2, x -> x.ack(1))
                .add("ack, no FLOW, full", -1, x -> x.ack(8))
                .add("nack, full", -2, x -> x.nack(0))
                .add("nack, full, no CONTEXT", -2, x -> x.nack(1))
                .add("nack, no FLOW, full", -1, x -> x.nack(8))
                .add("twice, full", -2, x -> x.twice(0))
                .add("twice, lost, full", -1, x -> x.twice(1))
                .add("twice, none, full", -1, x -> x.twice(200))
                .list;
    }

    private static void firstOfSeveral(State state) {
        for (Refused refused : state.calls()) {
            Line x = new Line(2);
            state.builder().accept(x);
            due(state.name() + ": " + refused.call(), refused.caller().applyAsLong(x), refused.answer());
        }
    }

    /** Each probe sees another part of an object; what it does to the object doesn't matter any more. */
    private static void changesNothing(State state) {
        List<Consumer<Probe>> probes = List.of(Probe::ends, Probe::gotAndKnown, Probe::spendings, Probe::letters,
                Probe::letterBytes, Probe::shelves, Probe::plan, Probe::future);
        for (Consumer<Probe> part : probes) {
            List<Long> before = answers(state, null, part);
            for (Refused refused : state.calls()) {
                List<Long> after = answers(state, refused, part);
                Due.holds(state.name() + ": " + refused.call(), before.equals(after));
            }
        }
    }

    private static List<Long> answers(State state, Refused refused, Consumer<Probe> part) {
        Line x = new Line(2);
        state.builder().accept(x);
        for (int turn = 0; turn < 2 && refused != null; turn++) {
            refused.caller().applyAsLong(x);
        }
        Probe probe = new Probe(x);
        part.accept(probe);
        return probe.answers;
    }

    private static final class Probe {
        final List<Long> answers = new ArrayList<>();
        private final Line x;

        Probe(Line x) {
            this.x = x;
        }

        private void saw(long answer) {
            answers.add(answer);
        }

        void ends() {
            for (int what = 0; what < 4; what++) {
                saw(x.count(what));
                saw(x.hung(what));
            }
            for (int flow = 0; flow < 8; flow++) {
                for (int what = 0; what < 5; what++) {
                    saw(x.squeezer(flow, what));
                    saw(x.context(flow, what));
                }
            }
        }

        void gotAndKnown() {
            for (int f = 0; f < 8; f++) {
                saw(x.got(f));
                saw(x.way(f));
                for (int flow = 0; flow < 8; flow++) {
                    saw(x.known(flow, f, false));
                    saw(x.known(flow, f, true));
                }
            }
        }

        void spendings() {
            for (int flow = 0; flow < 8; flow++) {
                for (int kind = 0; kind < 6; kind++) {
                    for (int what = 0; what < 3; what++) {
                        saw(x.spent(flow, kind, what));
                    }
                }
            }
        }

        void letters() {
            for (int l = 0; l < 10; l++) {
                for (int what = 0; what < 7; what++) {
                    saw(x.look(l, what));
                }
                for (int f = 0; f < 4; f++) {
                    saw(x.prove(l, f, f));
                }
            }
            saw(x.look(198, 3));
            saw(x.look(199, 0));
        }

        void letterBytes() {
            for (int l = 0; l < 10; l++) {
                for (int k = 0; k < 14; k++) {
                    saw(x.octet(l, k));
                }
            }
            saw(x.octet(199, 0));
        }

        void shelves() {
            for (int s = 0; s < 8; s++) {
                saw(x.worth(s));
                saw(x.toss(s));
                for (int i = 0; i < 16; i++) {
                    saw(x.put(s, i, 0));
                }
            }
        }

        void plan() {
            for (int f = 0; f < 8; f++) {
                saw(x.set(f, 0));
                saw(x.stride(0, f, 8));
                saw(x.stride(7, f, 8));
            }
            saw(x.field(FREE, 8, 0, 0));
        }

        void future() {
            for (int flow = 0; flow < 8; flow++) {
                int l = x.send(flow, false);
                saw(l);
                for (int k = 0; k < 14; k++) {
                    saw(x.octet(l, k));
                }
                saw(x.deliver(l));
            }
            saw(x.ack(0));
            saw(x.nack(0));
            saw(x.twice(0));
        }
    }
}
