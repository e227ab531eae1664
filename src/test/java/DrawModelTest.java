import java.util.ArrayList;
import java.util.Arrays;
import java.util.LinkedHashSet;
import java.util.List;
import java.util.Random;

/** draw() and counted() against a plain run of objects that keep their whole rows. */
public final class DrawModelTest {
    private static final Support CHECK = new Support("DrawModelTest");
    private static final String[] RULES = {"a*b", "(ab)*", "(a|a')*b", "a?(b'|c)*", ".*", "(a|b|c'|a')*"};

    private static final class Thing {
        final int kind;
        final Thing owner;
        final List<Integer> row = new ArrayList<>();
        final List<Integer> calls = new ArrayList<>();

        Thing(int kind, Thing owner) {
            this.kind = kind;
            this.owner = owner;
        }
    }

    private static final Table[] TABLES = Table.of(RULES);
    private final int[][] ops;
    private final long[][] counts = new long[4][1 + 12 + 12 + 144];
    private int seed;
    private int leftRuns;

    private DrawModelTest(int[][] ops) {
        this.ops = ops;
    }

    private int draw(int kind, int machine, int from, int runs) {
        seed = from;
        int broken = 0;
        for (int i = 0; i < runs; i++) {
            List<Thing> things = new ArrayList<>();
            boolean ended = run(things, TABLES[machine].sees());
            leftRuns += ended ? 0 : 1;
            for (Thing t : things) {
                count(t, ended);
                broken += t.kind == kind && breaks(t, machine, ended) ? 1 : 0;
            }
        }
        return broken;
    }

    private boolean breaks(Thing t, int machine, boolean ended) {
        int state = 0;
        for (int event : t.row) {
            state = TABLES[machine].next(state, event);
            if (state < 0) {
                return true;
            }
        }
        return ended && !TABLES[machine].isEnd(state);
    }

    private void count(Thing t, boolean ended) {
        long[] c = counts[t.kind];
        c[0]++;
        for (int i = 0; i < t.calls.size(); i++) {
            int member = t.calls.get(i);
            if (i == 0) {
                c[1 + member]++;
            } else {
                c[25 + 12 * t.calls.get(i - 1) + member]++;
            }
            if (ended && i == t.calls.size() - 1) {
                c[13 + member]++;
            }
        }
    }

    private int number() {
        seed = (int) (seed * 1103515245L + 12345L);
        return (int) ((seed & 0xFFFFFFFFL) / 65536);
    }

    /** Whether the run ended within its 200 ops. */
    private boolean run(List<Thing> things, boolean sees) {
        Thing[] v = new Thing[6];
        LinkedHashSet<Thing> bag = new LinkedHashSet<>();
        int place = 0;
        for (int done = 0; done < 200; done++) {
            if (place >= ops.length) {
                return true;
            }
            int[] o = ops[place++];
            switch (o[0]) {
                case Support.FROM:
                case Support.NEW:
                    if (o[0] == Support.FROM && v[o[3]] == null) {
                        return true;
                    }
                    v[o[1]] = new Thing(o[2], o[0] == Support.FROM ? v[o[3]] : null);
                    things.add(v[o[1]]);
                    break;
                case Support.COPY:
                    v[o[1]] = v[o[2]];
                    break;
                case Support.DROP:
                    v[o[1]] = null;
                    break;
                case Support.CALL:
                    if (v[o[1]] == null) {
                        return true;
                    }
                    v[o[1]].calls.add(o[2]);
                    v[o[1]].row.add(o[2]);
                    for (Thing t : things) {
                        if (sees && t.owner == v[o[1]]) {
                            t.row.add(12 + o[2]);
                        }
                    }
                    break;
                case Support.FORK:
                    place = number() % 2 == 1 ? o[1] : place;
                    break;
                case Support.JUMP:
                    place = o[1];
                    break;
                case Support.IF:
                    place = v[o[1]] == null ? o[2] : place;
                    break;
                case Support.PUT:
                    if (v[o[1]] != null) {
                        bag.add(v[o[1]]);
                    }
                    break;
                case Support.GET:
                    List<Thing> all = new ArrayList<>(bag);
                    v[o[1]] = all.isEmpty() ? null : all.get(all.size() == 1 ? 0 : number() % all.size());
                    break;
                case Support.EMPTY:
                    bag.clear();
                    break;
                default:
                    return true;
            }
        }
        return false;
    }

    private static int[] randomOp(Random random, int at, int size) {
        int[] weights = {0, 0, 0, 1, 1, 2, 2, 3, 4, 4, 4, 4, 4, 4, 5, 5, 5, 6, 6, 7, 8, 8, 8, 9, 9, 9, 10};
        int pick = at < 3 ? at % 2 : random.nextInt(60) == 0 ? 11 : weights[random.nextInt(weights.length)];
        int v = random.nextInt(3);
        int target = random.nextInt(size + 1);
        switch (pick) {
            case Support.NEW:
            case Support.FROM:
                return new int[] {pick, at < 3 ? at : v, random.nextInt(4), at < 3 ? 0 : random.nextInt(3)};
            case Support.COPY:
                return new int[] {pick, v, random.nextInt(3), 0};
            case Support.CALL:
                return new int[] {pick, v, random.nextInt(random.nextInt(3) == 0 ? 12 : 3), 0};
            case Support.FORK:
            case Support.JUMP:
                return new int[] {pick, target, 0, 0};
            case Support.IF:
                return new int[] {pick, v, target, 0};
            default:
                return new int[] {pick, v, 0, 0};
        }
    }

    private static int left;

    private static void one(Random random) {
        ProtocolMachines x = new ProtocolMachines();
        for (String rule : RULES) {
            Support.rule(x, rule);
        }
        int[][] ops = new int[3 + random.nextInt(20)][];
        for (int i = 0; i < ops.length; i++) {
            ops[i] = randomOp(random, i, ops.length);
            x.op(1, ops[i][0], ops[i][1], ops[i][2], ops[i][3]);
        }
        DrawModelTest model = new DrawModelTest(ops);
        String name = Arrays.deepToString(ops);
        for (int i = 0; i < 4; i++) {
            int kind = random.nextInt(4);
            int machine = random.nextInt(RULES.length);
            int from = i == 0 ? random.nextInt(3) - 1 : random.nextInt();
            int runs = i == 1 ? 100 : 1 + random.nextInt(20);
            CHECK.due("draw " + kind + " " + RULES[machine] + " " + from + " " + runs + name,
                    x.draw(1, kind, machine, from, runs), model.draw(kind, machine, from, runs));
        }
        left += model.leftRuns;
        long objects = 0;
        for (int kind = 0; kind < 4; kind++) {
            long[] c = model.counts[kind];
            objects += c[0];
            CHECK.due("objects " + name, x.counted(kind, 0, 0, 0), c[0]);
            int a = random.nextInt(3);
            for (int b = 0; b < 12; b++) {
                CHECK.due("first " + name, x.counted(kind, 1, b, 0), c[1 + b]);
                CHECK.due("last " + name, x.counted(kind, 2, b, 0), c[13 + b]);
                CHECK.due("next " + name, x.counted(kind, 3, a, b), c[25 + 12 * a + b]);
                CHECK.due("next " + name, x.counted(kind, 3, b, a), c[25 + 12 * b + a]);
            }
        }
        CHECK.due("forget " + name, x.forget(), objects);
    }

    public static void main(String[] args) {
        Random random = new Random(5);
        for (int i = 0; i < 3000; i++) {
            one(random);
        }
        CHECK.due("some runs are left", left > 1000 ? 1 : 0, 1);
        System.out.println("runs that were left: " + left);
        CHECK.finish();
    }
}
