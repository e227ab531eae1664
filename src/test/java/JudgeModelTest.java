import java.util.ArrayList;
import java.util.Arrays;
import java.util.HashMap;
import java.util.HashSet;
import java.util.List;
import java.util.Map;
import java.util.Random;
import java.util.Set;

/** judge(), shapes() and way() against runs of real objects, followed one by one. */
public final class JudgeModelTest {
    private static final Support CHECK = new Support("JudgeModelTest");
    private static final String[] RULES = {"a*b", "ab", "(a|a')*b", "a?(b'|c)*", "(ab)*", "a'(a|b)*|b", "(a|b|a'|b')*",
        "(a?b?)(a'b)*", ".*", "(b'*a*)*|b", "(a|b|a'a|b'b)*", "(a|b)?(a|b)?(a|b)?"};

    /** What there is ahead of an op: real objects with their rows. */
    private static final class World {
        int place;
        int[] variables = {-1, -1, -1, -1, -1, -1};
        List<Integer> kinds = new ArrayList<>();
        List<Integer> owners = new ArrayList<>();
        List<Integer> states = new ArrayList<>();
        Set<Integer> bag = new HashSet<>();

        World copy(int to) {
            World w = new World();
            w.place = to;
            w.variables = variables.clone();
            w.kinds.addAll(kinds);
            w.owners.addAll(owners);
            w.states.addAll(states);
            w.bag.addAll(bag);
            return w;
        }

        String key() {
            return place + Arrays.toString(variables) + kinds + owners + states + bag;
        }
    }

    private static final Table[] TABLES = Table.of(RULES);
    private final Table table;
    private final boolean sees;
    private final int kind;
    private final int[][] ops;
    private final Set<String> shapes = new HashSet<>();
    private String way = "";
    private boolean complete = true;
    private int depth;

    private JudgeModelTest(Table table, int kind, int[][] ops) {
        this.table = table;
        this.sees = table.sees();
        this.kind = kind;
        this.ops = ops;
    }

    private void explore(int mostWorlds, int mostDepth, int quiet) {
        Map<String, World> level = new HashMap<>();
        Map<String, List<Integer>> paths = new HashMap<>();
        Set<String> seen = new HashSet<>();
        World first = new World();
        level.put(first.key(), first);
        paths.put(first.key(), List.of());
        int still = 0;
        for (depth = 0; !level.isEmpty(); depth++) {
            if (seen.size() > mostWorlds || depth > mostDepth || still > quiet) {
                complete = still > quiet;
                return;
            }
            int before = shapes.size();
            Map<String, World> nextLevel = new HashMap<>();
            Map<String, List<Integer>> nextPaths = new HashMap<>();
            List<Integer> best = null;
            for (Map.Entry<String, World> e : level.entrySet()) {
                World w = e.getValue();
                seen.add(e.getKey());
                noteShapes(w);
                List<Integer> path = new ArrayList<>(paths.get(e.getKey()));
                path.add(w.place);
                List<World> behind = new ArrayList<>();
                if (perform(w, behind) && (best == null || less(path, best))) {
                    best = path;
                }
                for (World b : behind) {
                    String key = b.key();
                    if (seen.contains(key) || level.containsKey(key)) {
                        continue;
                    }
                    if (!nextLevel.containsKey(key) || less(path, nextPaths.get(key))) {
                        nextLevel.put(key, b);
                        nextPaths.put(key, path);
                    }
                }
            }
            if (best != null && way.isEmpty()) {
                way = best.toString().replaceAll("[\\[\\],]", "");
            }
            still = shapes.size() == before ? still + 1 : 0;
            level = nextLevel;
            paths = nextPaths;
        }
    }

    private static boolean less(List<Integer> one, List<Integer> other) {
        for (int i = 0; i < one.size() && i < other.size(); i++) {
            if (!one.get(i).equals(other.get(i))) {
                return one.get(i) < other.get(i);
            }
        }
        return one.size() < other.size();
    }

    private void noteShapes(World w) {
        shapes.add(shape(w, -1, -1));
        for (int i = 0; i < w.kinds.size(); i++) {
            if (sees) {
                shapes.add(shape(w, -1, i));
            }
            if (w.kinds.get(i) == kind && w.states.get(i) >= 0) {
                shapes.add(shape(w, i, sees ? w.owners.get(i) : -1));
            }
        }
    }

    private static String shape(World w, int chosen, int likely) {
        StringBuilder all = new StringBuilder();
        all.append(w.place).append(chosen >= 0 ? " chosen " + w.states.get(chosen) : "");
        all.append(likely >= 0 ? " likely" : "").append(' ');
        boolean others = false;
        for (int v : w.variables) {
            all.append(v < 0 ? '-' : v == chosen ? 'C' : v == likely ? 'L' : 'o');
        }
        for (int v : w.bag) {
            others = others || (v != chosen && v != likely);
        }
        all.append(w.bag.contains(chosen) ? " C" : "").append(w.bag.contains(likely) ? " L" : "");
        return all.append(others ? " o" : "").toString();
    }

    /** Whether the op breaks; the worlds behind it. */
    private boolean perform(World w, List<World> behind) {
        int[] o = w.place < ops.length ? ops[w.place] : new int[] {Support.RETURN, 0, 0, 0};
        World on = w.copy(w.place + 1);
        switch (o[0]) {
            case Support.NEW:
                make(on, o[1], o[2], -1);
                break;
            case Support.FROM:
                if (w.variables[o[3]] < 0) {
                    return endsBadly(w);
                }
                make(on, o[1], o[2], w.variables[o[3]]);
                break;
            case Support.COPY:
                on.variables[o[1]] = w.variables[o[2]];
                break;
            case Support.DROP:
                on.variables[o[1]] = -1;
                break;
            case Support.CALL:
                if (w.variables[o[1]] < 0) {
                    return endsBadly(w);
                }
                behind.add(on);
                return call(on, w.variables[o[1]], o[2]);
            case Support.FORK:
                behind.add(w.copy(o[1]));
                break;
            case Support.JUMP:
                on.place = o[1];
                break;
            case Support.IF:
                on.place = w.variables[o[1]] < 0 ? o[2] : on.place;
                break;
            case Support.PUT:
                if (w.variables[o[1]] >= 0) {
                    on.bag.add(w.variables[o[1]]);
                }
                break;
            case Support.GET:
                for (int object : w.bag) {
                    World got = on.copy(on.place);
                    got.variables[o[1]] = object;
                    behind.add(got);
                }
                if (!w.bag.isEmpty()) {
                    return false;
                }
                on.variables[o[1]] = -1;
                break;
            case Support.EMPTY:
                on.bag.clear();
                break;
            default:
                return endsBadly(w);
        }
        behind.add(on);
        return false;
    }

    private static void make(World w, int variable, int kind, int owner) {
        w.variables[variable] = w.kinds.size();
        w.kinds.add(kind);
        w.owners.add(owner);
        w.states.add(0);
    }

    private boolean call(World w, int object, int member) {
        boolean breaks = false;
        for (int i = 0; i < w.kinds.size(); i++) {
            int event = i == object ? member : sees && w.owners.get(i) == object ? 12 + member : -1;
            if (event >= 0 && w.kinds.get(i) == kind && w.states.get(i) >= 0) {
                int to = table.next(w.states.get(i), event);
                w.states.set(i, to);
                breaks = breaks || to < 0;
            }
        }
        return breaks;
    }

    private boolean endsBadly(World w) {
        for (int i = 0; i < w.kinds.size(); i++) {
            if (w.kinds.get(i) == kind && w.states.get(i) >= 0 && !table.isEnd(w.states.get(i))) {
                return true;
            }
        }
        return false;
    }

    /** An op that mostly uses variables which the ops ahead of it may have filled. */
    private static int[] randomOp(Random random, int at, int size, boolean forward, int made) {
        int[] weights = {0, 0, 1, 1, 1, 2, 2, 3, 4, 4, 4, 4, 4, 5, 5, 5, 5, 6, 7, 8, 8, 8, 9, 9, 9, 10, 11};
        int pick = weights[random.nextInt(weights.length)];
        if (at < made) {
            pick = at == 0 ? Support.NEW : random.nextInt(2);
        }
        int v = random.nextInt(random.nextInt(20) == 0 ? 6 : 3);
        int w = random.nextInt(random.nextInt(20) == 0 ? 6 : 3);
        int target = forward ? at + 1 + random.nextInt(size - at + 1) : random.nextInt(size + 2);
        target = Math.min(target, 32);
        switch (pick) {
            case Support.NEW:
                return new int[] {pick, at < made ? at : v, random.nextInt(2), 0};
            case Support.FROM:
                return new int[] {pick, at < made ? at : v, random.nextInt(2),
                        at < made && at > 0 ? random.nextInt(at) : w};
            case Support.COPY:
                return new int[] {pick, v, w, 0};
            case Support.CALL:
                return new int[] {pick, v, random.nextInt(2), 0};
            case Support.FORK:
            case Support.JUMP:
                return new int[] {pick, target, 0, 0};
            case Support.IF:
                return new int[] {pick, v, target, 0};
            default:
                return new int[] {pick, v, 0, 0};
        }
    }

    private static int compared;
    private static int large;
    private static int broken;
    private static int[][] ahead = {};

    private static void one(Random random, boolean forward, int mostWorlds) {
        ProtocolMachines x = new ProtocolMachines();
        for (String rule : RULES) {
            Support.rule(x, rule);
        }
        int size = 4 + random.nextInt(forward ? 22 : 10);
        int[][] ops = new int[size][];
        StringBuilder text = new StringBuilder();
        int made = random.nextInt(5) == 0 ? random.nextInt(3) : 3;
        for (int i = 0; i < size; i++) {
            ops[i] = randomOp(random, i, size, forward, made);
            x.op(0, ops[i][0], ops[i][1], ops[i][2], ops[i][3]);
            text.append(Arrays.toString(ops[i]));
        }
        int machine = random.nextInt(RULES.length);
        int kind = random.nextInt(2);
        String name = RULES[machine] + " kind " + kind + " " + text;
        JudgeModelTest model = new JudgeModelTest(TABLES[machine], kind, ops);
        model.explore(mostWorlds, 60, forward ? 1000 : 24);
        // A judge() ahead of it must leave nothing behind.
        for (int[] o : ahead) {
            x.op(1, o[0], o[1], o[2], o[3]);
        }
        x.judge(1, kind, machine);
        ahead = ops;
        int answer = x.judge(0, kind, machine);
        if (!model.complete) {
            if (!model.way.isEmpty()) {
                CHECK.due("judge " + name, answer, 0);
                CHECK.same("way " + name, Support.way(x), model.way);
            } else {
                CHECK.due("no short way " + name, answer == 1 || x.way(-1) > model.depth ? 1 : 0, 1);
            }
            return;
        }
        compared++;
        large += x.shapes() > 60 ? 1 : 0;
        broken += answer == 0 ? 1 : 0;
        CHECK.due("judge " + name, answer, model.way.isEmpty() ? 1 : 0);
        CHECK.due("shapes " + name, x.shapes(), model.shapes.size());
        CHECK.same("way " + name, Support.way(x), model.way);
    }

    public static void main(String[] args) {
        Random random = new Random(20261116);
        for (int i = 0; i < 6000; i++) {
            one(random, true, 20000);
        }
        CHECK.due("most straight methods are followed whole", compared > 5000 ? 1 : 0, 1);
        int before = compared;
        for (int i = 0; i < 4000; i++) {
            one(random, false, 4000);
        }
        CHECK.due("many methods with loops are followed whole", compared - before > 1000 ? 1 : 0, 1);
        System.out.println("followed whole: " + before + " straight, " + (compared - before) + " with loops; "
                + large + " of more than 60 shapes, " + broken + " broken");
        CHECK.finish();
    }
}
