import java.util.ArrayList;
import java.util.List;
import java.util.function.Supplier;
import java.util.function.ToIntFunction;

/** What the calls refuse, in which order, and that it leaves everything as it was: promises 2 to 22. */
public final class BoundaryRefusedTest {
    private static final int BAD = Support.BAD, NONE = Support.NONE, FULL = Support.FULL;
    private static final int LEAST = Integer.MIN_VALUE, MOST = Integer.MAX_VALUE;
    private static final int AAAA = 0x61616161;
    private static final int BATCH = 12;
    private static final Support CHECK = new Support("BoundaryRefusedTest");

    private record Refused(String name, int want, ToIntFunction<Run> call) {
    }

    public static void main(String[] args) {
        scenes();
        firstInThisOrder();
        refusedChangesNothing();
        refusedReadsChangeTheTextAlone();
        askingChangesNothing();
        CHECK.finish();
    }

    private static int[] o(int... numbers) {
        return numbers;
    }

    private static Run newOne() {
        return new Run();
    }

    /** A text, machines, steps, ops, a compare, a broken judge and draws. */
    private static Run ordinary() {
        Run x = Run.with("(a|b')*b", "ab?", "(a|b)*abb").code(0, o(0, 0, 0), o(1, 1, 1, 0), o(8, 1), o(5, 6),
                o(4, 0, 0),
                o(4, 1, 1), o(9, 2), o(4, 2, 1)).code(2, o(0, 5, 3), o(4, 5, 11));
        x.step(0, 0, 0, 0, 1);
        x.step(0, 0, 2, 0, 1);
        x.step(3, 11, 1, 1, 0);
        x.infer(0);
        x.compare(0, 2);
        x.judge(0, 1, 0);
        x.draw(0, 0, 1, 77, 30);
        x.text("ab*(c|d')+");
        return x;
    }

    /** No room anywhere. */
    private static Run full() {
        Run x = new Run();
        for (int i = 0; i < 12; i++) {
            x.text("a?b'".repeat(1 + i % 2));
            x.read();
        }
        x.text("a*b(c|d)".repeat(16));
        for (int i = 0; i < 32; i++) {
            x.op(0, i == 0 ? 0 : i % 3 == 0 ? 5 : 4, i % 3 == 0 ? i : 0, i % 2, 0);
        }
        for (int i = 0; i < 6; i++) {
            x.step(0, 0, i % 3, 0, 1);
            x.step(3, 11, 2, 1, i % 4);
        }
        x.compare(0, 1);
        x.judge(0, 0, 0);
        x.draw(0, 0, 1, -5, 50);
        return x;
    }

    /** The latest judge() had too many shapes, and the latest compare() found no difference. */
    private static Run unknown() {
        Run x = Run.with("a", "a");
        for (int i = 0; i < 6; i++) {
            x.op(0, 5, 2 * i + 2, 0, 0);
            x.op(0, 0, i, 0, 0);
        }
        for (int i = 0; i < 20; i++) {
            x.op(0, 10, 0, 0, 0);
        }
        x.compare(0, 1);
        x.judge(0, 0, 0);
        return x;
    }

    /** Twins of one object, so that none is asked behind its 512th call. */
    private static final class Asker {
        private final Run base;
        private Run now;

        Asker(Run base) {
            this.base = base;
        }

        Run withRoom(int calls) {
            if (now == null || now.calls() + calls > Run.MOST_CALLS) {
                now = base.twin();
            }
            return now;
        }
    }

    /** All that can be asked of an object, and of what it goes on to do. */
    private static String all(Run x, boolean withText) {
        StringBuilder out = new StringBuilder();
        Asker ask = new Asker(x);
        for (int what = withText ? 0 : 1; what <= 9; what++) {
            out.append(ask.withRoom(1).told(what)).append(' ');
        }
        out.append("shapes ").append(ask.withRoom(1).shapes());
        out.append(" way ").append(ask.withRoom(100).way(-1)).append(": ").append(ask.withRoom(100).places());
        out.append(" witness ").append(ask.withRoom(100).witness(-1)).append(": ").append(ask.withRoom(100).row());
        int machines = ask.withRoom(1).told(1);
        for (int i = 0; i < machines; i++) {
            out.append(table(x::twin, i));
        }
        out.append(counts(x::twin));
        out.append(steps(x, machines)).append(ops(x));
        return withText ? out.append(text(x)).toString() : out.toString();
    }

    private static String table(Supplier<Run> maker, int machine) {
        StringBuilder out = new StringBuilder("machine ");
        int states = maker.get().states(machine);
        Run now = null;
        for (int state = 0; state < states; state++) {
            now = state % 6 == 0 ? maker.get() : now;
            out.append(now.ends(machine, state)).append(':');
            for (int event = 0; event < 24; event++) {
                out.append(now.next(machine, state, event)).append(' ');
            }
        }
        return out.append('\n').toString();
    }

    private static String counts(Supplier<Run> maker) {
        StringBuilder out = new StringBuilder("counted ");
        for (int kind = 0; kind < 4; kind++) {
            Run now = maker.get();
            out.append(now.counted(kind, 0, 0, 0)).append(": ");
            for (int a = 0; a < 12; a++) {
                out.append(now.counted(kind, 1, a, 0)).append(' ').append(now.counted(kind, 2, a, 0)).append(' ');
                for (int b = 0; b < 12; b++) {
                    out.append(now.counted(kind, 3, a, b)).append(' ');
                }
            }
        }
        return out.append('\n').toString();
    }

    private static String text(Run x) {
        Run reader = x.twin();
        int answer = reader.read();
        return "text " + answer + (answer < 0 ? "" : table(reader::twin, answer));
    }

    private static String steps(Run x, int machines) {
        StringBuilder out = new StringBuilder("steps ");
        for (int cls = 0; cls < 4; cls++) {
            Run reader = x.twin();
            if (reader.infer(cls) >= 0) {
                out.append(table(reader::twin, machines));
            }
            out.append(reader.plain(cls)).append(' ');
        }
        return out.toString();
    }

    private static String ops(Run x) {
        StringBuilder out = new StringBuilder("ops ");
        for (int method = 0; method < 4; method++) {
            for (int kind = 0; kind < 4; kind++) {
                Run reader = x.twin();
                int machine = reader.told(1) > 0 ? 0 : reader.rule("a*b");
                out.append(reader.judge(method, kind, machine)).append(' ').append(reader.shapes()).append(' ');
                out.append(reader.places()).append(' ').append(reader.draw(method, kind, machine, 99, 40));
            }
            Run drawer = x.twin();
            drawer.draw(method, 0, drawer.told(1) > 0 ? 0 : drawer.rule("a*b"), 4711, 60);
            out.append(counts(drawer::twin));
        }
        return out.toString();
    }

    private static void bad(List<Refused> to, String name, ToIntFunction<Run> call) {
        to.add(new Refused(name, BAD, call));
    }

    /** What is BAD whatever there is. */
    private static List<Refused> badCalls() {
        List<Refused> to = new ArrayList<>();
        int[] bytes = {0x1F616161, 0x617F6161, 0x61618061, 0x616161FF};
        for (int one : bytes) {
            bad(to, "feed a", x -> x.feed(one, AAAA, AAAA, AAAA));
            bad(to, "feed b", x -> x.feed(AAAA, one, AAAA, AAAA));
            bad(to, "feed c", x -> x.feed(AAAA, AAAA, one, AAAA));
            bad(to, "feed d", x -> x.feed(AAAA, AAAA, AAAA, one));
        }
        for (int n : new int[] {-1, LEAST, 129, MOST}) {
            bad(to, "cut " + n, x -> x.cut(n));
        }
        for (int m : new int[] {-1, LEAST, 12, MOST}) {
            bad(to, "states " + m, x -> x.states(m));
            bad(to, "next " + m, x -> x.next(m, 0, 0));
            bad(to, "next state " + m, x -> x.next(0, m < 0 ? m : Math.max(m, 24), 0));
            bad(to, "next event " + m, x -> x.next(0, 0, m < 0 ? m : Math.max(m, 24)));
            bad(to, "ends " + m, x -> x.ends(m, 0));
            bad(to, "ends state " + m, x -> x.ends(0, m < 0 ? m : Math.max(m, 24)));
            bad(to, "sees " + m, x -> x.sees(m));
            bad(to, "compare " + m, x -> x.compare(m, 0));
            bad(to, "compare with " + m, x -> x.compare(0, m));
            bad(to, "judge machine " + m, x -> x.judge(0, 0, m));
            bad(to, "draw machine " + m, x -> x.draw(0, 0, m, 1, 1));
            bad(to, "counted a " + m, x -> x.counted(0, 1 + (m & 1), m, 0));
            bad(to, "counted behind " + m, x -> x.counted(0, 3, m, 0));
            bad(to, "counted next " + m, x -> x.counted(0, 3, 0, m));
            bad(to, "told " + m, x -> x.told(m));
            bad(to, "member " + m, x -> x.step(0, m, 0, 0, 0));
            bad(to, "called " + m, x -> x.op(0, 4, 0, m, 0));
            bad(to, "op " + m, x -> x.op(0, m, 0, 0, 0));
        }
        for (int four : new int[] {-1, LEAST, 4, MOST}) {
            bad(to, "class " + four, x -> x.step(four, 0, 0, 0, 0));
            bad(to, "step kind " + four, x -> x.step(0, 0, four, 0, 0));
            bad(to, "field " + four, x -> x.step(0, 0, 0, four, 0));
            bad(to, "value " + four, x -> x.step(0, 0, 0, 0, four));
            bad(to, "plain " + four, x -> x.plain(four));
            bad(to, "infer " + four, x -> x.infer(four));
            bad(to, "method " + four, x -> x.op(four, 10, 0, 0, 0));
            bad(to, "kind " + four, x -> x.op(0, 0, 0, four, 0));
            bad(to, "kind from " + four, x -> x.op(0, 1, 0, four, 0));
            bad(to, "wipe " + four, x -> x.wipe(four));
            bad(to, "judge method " + four, x -> x.judge(four, 0, 0));
            bad(to, "judge kind " + four, x -> x.judge(0, four, 0));
            bad(to, "draw method " + four, x -> x.draw(four, 0, 0, 1, 1));
            bad(to, "draw kind " + four, x -> x.draw(0, four, 0, 1, 1));
            bad(to, "counted kind " + four, x -> x.counted(four, 0, 0, 0));
            bad(to, "counted what " + four, x -> x.counted(0, four, 0, 0));
        }
        for (int runs : new int[] {-1, LEAST, 0, 101, MOST}) {
            bad(to, "runs " + runs, x -> x.draw(0, 0, 0, 1, runs));
        }
        for (int v : new int[] {-1, LEAST, 6, MOST}) {
            for (int op : new int[] {0, 1, 2, 3, 4, 7, 8, 9}) {
                bad(to, "variable " + v + " of op " + op, x -> x.op(0, op, v, 0, 0));
            }
            bad(to, "from variable " + v, x -> x.op(0, 1, 0, 0, v));
            bad(to, "copy of variable " + v, x -> x.op(0, 2, 0, v, 0));
        }
        for (int t : new int[] {-1, LEAST, 33, MOST}) {
            bad(to, "fork to " + t, x -> x.op(0, 5, t, 0, 0));
            bad(to, "jump to " + t, x -> x.op(0, 6, t, 0, 0));
            bad(to, "if to " + t, x -> x.op(0, 7, 0, t, 0));
        }
        return to;
    }

    /** What has no room in full(). */
    private static List<Refused> fullCalls() {
        List<Refused> to = new ArrayList<>();
        to.add(new Refused("feed", FULL, x -> x.feed(AAAA, AAAA, AAAA, AAAA)));
        for (int kind = 0; kind < 3; kind++) {
            int which = kind;
            to.add(new Refused("step " + kind, FULL, x -> x.step(0, 0, which, 1, 2)));
            to.add(new Refused("last step " + kind, FULL, x -> x.step(3, 11, which, 0, 3)));
        }
        for (int cls = 0; cls < 4; cls++) {
            int which = cls;
            to.add(new Refused("infer " + cls, FULL, x -> x.infer(which)));
        }
        for (int op = 0; op < 12; op++) {
            int which = op;
            to.add(new Refused("op " + op, FULL, x -> x.op(0, which, 1, 1, 1)));
        }
        return to;
    }

    /** A scene in which there is nothing to lose would prove nothing. */
    private static void scenes() {
        CHECK.sentence(22, "0 bytes of THE TEXT, 1 MACHINES, 2 .. 5 OPS of METHODS 0 .. 3, 6 .. 9 STEPS of CLASSES"
                + " 0 .. 3.");
        Run x = ordinary();
        CHECK.same("the way of ordinary()", x.places(), "0 1 2 3 4");
        CHECK.same("its witness", x.row(), "1");
        CHECK.is("its counts", x.counted(0, 0, 0, 0) > 0 && x.counted(1, 3, 1, 1) > 0);
        CHECK.due("its text", x.told(0), 16);
        Run y = full();
        int[] told = {128, 12, 32, 0, 0, 0, 6, 0, 0, 6};
        for (int what = 0; what < told.length; what++) {
            CHECK.due("full() has of " + what, y.told(what), told[what]);
        }
        CHECK.is("it has a way", y.way(-1) > 0);
        CHECK.is("and a witness", y.witness(-1) > 0);
        Run z = unknown();
        CHECK.due("unknown()", z.shapes(), 3001);
        CHECK.due("its way", z.way(-1), NONE);
        CHECK.due("its witness", z.witness(-1), NONE);
    }

    private static void firstInThisOrder() {
        CHECK.sentence(4,
                "BAD: a number is none that there is, or outside what is told; NONE: none such; FULL: no room;"
                + " of several the first in this order.");
        Run x = full();
        for (Refused r : fullCalls()) {
            CHECK.due(r.name() + " has no room", r.call().applyAsInt(x), r.want());
        }
        CHECK.due("BAD ahead of FULL: feed", x.feed(AAAA, AAAA, AAAA, 0), BAD);
        CHECK.due("BAD ahead of FULL: step", x.step(0, 0, 0, 0, 4), BAD);
        CHECK.due("BAD ahead of FULL: infer", x.infer(4), BAD);
        CHECK.due("BAD ahead of FULL: op", x.op(0, 0, 6, 0, 0), BAD);
        CHECK.due("BAD ahead of NONE: a state", x.next(0, 24, 11), BAD);
        CHECK.due("BAD ahead of NONE: an event", x.next(0, 1, 24), BAD);
        CHECK.due("NONE where there is no BAD", x.next(0, 0, 11), NONE);
        Run y = unknown();
        CHECK.due("NONE: too many shapes", y.judge(0, 0, 0), NONE);
        CHECK.due("BAD ahead of NONE: a kind", y.judge(0, 4, 0), BAD);
        CHECK.due("BAD ahead of NONE: a machine", y.judge(0, 0, 2), BAD);
        CHECK.due("a number that is none yet", y.states(2), BAD);
        CHECK.due("it is one", y.rule("a"), 2);
        CHECK.due("then it is there", y.states(2), 2);
    }

    private static void unchanged(String scene, Supplier<Run> maker, List<Refused> calls) {
        String before = all(maker.get(), true);
        for (int from = 0; from < calls.size(); from += BATCH) {
            Run x = maker.get();
            StringBuilder names = new StringBuilder();
            for (Refused r : calls.subList(from, Math.min(from + BATCH, calls.size()))) {
                CHECK.due(scene + ", " + r.name(), r.call().applyAsInt(x), r.want());
                names.append(r.name()).append("; ");
            }
            CHECK.same(scene + ", behind " + names, all(x, true), before);
        }
    }

    private static void refusedChangesNothing() {
        CHECK.sentence(2, "What is refused changes nothing");
        unchanged("new", BoundaryRefusedTest::newOne, badCalls());
        unchanged("ordinary", BoundaryRefusedTest::ordinary, badCalls());
        unchanged("full", BoundaryRefusedTest::full, badCalls());
        unchanged("full", BoundaryRefusedTest::full, fullCalls());
        unchanged("unknown", BoundaryRefusedTest::unknown, badCalls());
    }

    private static void refusedReadsChangeTheTextAlone() {
        CHECK.sentence(4, "(but read() empties THE TEXT in any case).");
        String[] texts = {")", "a(", "a**", ".*|" + "a".repeat(99), "a".repeat(24)};
        for (Supplier<Run> maker : List.<Supplier<Run>>of(BoundaryRefusedTest::newOne, BoundaryRefusedTest::ordinary,
                BoundaryRefusedTest::full, BoundaryRefusedTest::unknown)) {
            String before = all(maker.get(), false);
            for (String text : texts) {
                Run x = maker.get();
                x.cut(x.told(0));
                CHECK.is("refused " + text, x.rule(text) < 0);
                CHECK.due("emptied", x.told(0), 0);
                CHECK.same("all but the text behind " + text, all(x, false), before);
            }
        }
        String before = all(full(), false);
        Run x = full();
        CHECK.due("no room for a machine", x.read(), FULL);
        CHECK.due("emptied", x.told(0), 0);
        CHECK.same("all but the text", all(x, false), before);
    }

    /** Calls that only ask are no refusals, but leave as little behind. */
    private static void askingChangesNothing() {
        CHECK.sentence(18, "NONE: none such.");
        List<Refused> asks = new ArrayList<>();
        for (int i : new int[] {-2, LEAST, MOST, 600}) {
            asks.add(new Refused("witness " + i, NONE, x -> x.witness(i)));
            asks.add(new Refused("way " + i, NONE, x -> x.way(i)));
        }
        unchanged("new", BoundaryRefusedTest::newOne, asks);
        unchanged("ordinary", BoundaryRefusedTest::ordinary, asks);
        unchanged("full", BoundaryRefusedTest::full, asks);
        unchanged("unknown", BoundaryRefusedTest::unknown, asks);
    }
}
