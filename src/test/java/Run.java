import java.util.ArrayList;
import java.util.List;
import java.util.function.ToIntFunction;

/**
 * An object with the calls that it was used for, so that a twin can be made by the same ones. The document tells
 * nothing of what is answered behind the 512th call, so that a test which asks there is a wrong test.
 */
final class Run {
    static final int MOST_CALLS = 512;

    private final ProtocolMachines object = new ProtocolMachines();
    private final List<ToIntFunction<ProtocolMachines>> calls = new ArrayList<>();

    static Run with(String... rules) {
        Run x = new Run();
        for (int i = 0; i < rules.length; i++) {
            x.mustBe("rule " + rules[i], x.rule(rules[i]), i);
        }
        return x;
    }

    /** An op with its numbers. */
    static int[] o(int... numbers) {
        return numbers;
    }

    int call(ToIntFunction<ProtocolMachines> one) {
        if (calls.size() >= MOST_CALLS) {
            throw new IllegalStateException("the test asks behind the 512th call");
        }
        calls.add(one);
        return one.applyAsInt(object);
    }

    int calls() {
        return calls.size();
    }

    Run twin() {
        Run other = new Run();
        for (ToIntFunction<ProtocolMachines> one : calls) {
            other.call(one);
        }
        return other;
    }

    private void mustBe(String what, int got, int want) {
        if (got != want) {
            throw new IllegalStateException(what + " answered " + got + ", the test needs " + want);
        }
    }

    /** Feeds a text, with blanks behind it up to a multiple of sixteen bytes. */
    int text(String text) {
        StringBuilder all = new StringBuilder(text);
        while (all.length() % 16 != 0) {
            all.append(' ');
        }
        int answer = 0;
        for (int at = 0; at < all.length(); at += 16) {
            answer = feed(Support.four(all, at), Support.four(all, at + 4), Support.four(all, at + 8),
                    Support.four(all, at + 12));
        }
        return answer;
    }

    /** Reads a text of just so many bytes. */
    int rule(String text) {
        text(text);
        int blanks = (16 - text.length() % 16) % 16;
        if (blanks > 0) {
            cut(blanks);
        }
        return read();
    }

    /** Ops from place 0 on; the numbers that are not told are wild ones, as they do not matter. */
    Run code(int method, int[]... ops) {
        for (int i = 0; i < ops.length; i++) {
            int[] o = ops[i];
            int a = o.length > 1 ? o[1] : -7;
            int b = o.length > 2 ? o[2] : 99;
            int c = o.length > 3 ? o[3] : Integer.MIN_VALUE;
            mustBe("op " + o[0] + " at " + i, op(method, o[0], a, b, c), i);
        }
        return this;
    }

    /** The places of the way, with blanks between them; none: no text. */
    String places() {
        StringBuilder all = new StringBuilder();
        int many = way(-1);
        for (int i = 0; i < many; i++) {
            all.append(way(i)).append(' ');
        }
        return all.toString().trim();
    }

    /** The events of the witness, likewise. */
    String row() {
        StringBuilder all = new StringBuilder();
        int many = witness(-1);
        for (int i = 0; i < many; i++) {
            all.append(witness(i)).append(' ');
        }
        return all.toString().trim();
    }

    /** A machine as Support.machine writes it. */
    String machine(int number) {
        StringBuilder all = new StringBuilder();
        int many = states(number);
        for (int state = 0; state < many; state++) {
            all.append(ends(number, state) == 1 ? "[end" : "[");
            for (int event = 0; event < 24; event++) {
                int to = next(number, state, event);
                if (to != Support.NONE) {
                    all.append(' ').append(event).append(':').append(to);
                }
            }
            all.append(']');
        }
        return all.toString();
    }

    /** Whether a row is one of a machine: letters for members, one with a ' for the owner's. */
    boolean has(int machine, String row) {
        int state = 0;
        for (int i = 0; i < row.length() && state >= 0; i++) {
            boolean owners = i + 1 < row.length() && row.charAt(i + 1) == '\'';
            state = next(machine, state, row.charAt(i) - 'a' + (owners ? 12 : 0));
            i += owners ? 1 : 0;
        }
        return state >= 0 && ends(machine, state) == 1;
    }

    int feed(int a, int b, int c, int d) {
        return call(p -> p.feed(a, b, c, d));
    }

    int cut(int n) {
        return call(p -> p.cut(n));
    }

    int read() {
        return call(p -> p.read());
    }

    int states(int machine) {
        return call(p -> p.states(machine));
    }

    int next(int machine, int state, int event) {
        return call(p -> p.next(machine, state, event));
    }

    int ends(int machine, int state) {
        return call(p -> p.ends(machine, state));
    }

    int sees(int machine) {
        return call(p -> p.sees(machine));
    }

    int compare(int m, int n) {
        return call(p -> p.compare(m, n));
    }

    int witness(int i) {
        return call(p -> p.witness(i));
    }

    int step(int cls, int member, int kind, int field, int value) {
        return call(p -> p.step(cls, member, kind, field, value));
    }

    int plain(int cls) {
        return call(p -> p.plain(cls));
    }

    int infer(int cls) {
        return call(p -> p.infer(cls));
    }

    int op(int method, int op, int a, int b, int c) {
        return call(p -> p.op(method, op, a, b, c));
    }

    int wipe(int method) {
        return call(p -> p.wipe(method));
    }

    int judge(int method, int kind, int machine) {
        return call(p -> p.judge(method, kind, machine));
    }

    int shapes() {
        return call(p -> p.shapes());
    }

    int way(int i) {
        return call(p -> p.way(i));
    }

    int draw(int method, int kind, int machine, int x, int runs) {
        return call(p -> p.draw(method, kind, machine, x, runs));
    }

    int counted(int kind, int what, int a, int b) {
        return call(p -> p.counted(kind, what, a, b));
    }

    int forget() {
        return call(p -> p.forget());
    }

    int told(int what) {
        return call(p -> p.told(what));
    }
}
