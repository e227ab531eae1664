import java.util.ArrayList;
import java.util.List;
import java.util.Random;

/** compare() and witness() against rows tried out in their order; infer() against objects with real fields. */
public final class CompareModelTest {
    private static final Support CHECK = new Support("CompareModelTest");
    private static final int[] ALPHABET = {0, 1, 2, 12, 13};
    private static final int LONGEST = 6;

    /** The rows of a length, the least first; told as the digits of a number. */
    private static int[] row(int length, int number) {
        int[] row = new int[length];
        for (int i = length - 1; i >= 0; i--) {
            row[i] = ALPHABET[number % ALPHABET.length];
            number /= ALPHABET.length;
        }
        return row;
    }

    private static String text(int[] row) {
        StringBuilder all = new StringBuilder();
        for (int event : row) {
            all.append(event).append(' ');
        }
        return all.toString().trim();
    }

    private static void compareOnce(String one, String other) {
        ProtocolMachines x = new ProtocolMachines();
        if (Support.rule(x, one) != 0 || Support.rule(x, other) != 1) {
            return;
        }
        Table first = Table.of(one);
        Table second = Table.of(other);
        boolean onlyOne = false;
        boolean onlyOther = false;
        String witness = null;
        int count = 1;
        for (int length = 0; length <= LONGEST; length++) {
            for (int i = 0; i < count; i++) {
                int[] row = row(length, i);
                boolean a = first.accepts(row);
                boolean b = second.accepts(row);
                onlyOne = onlyOne || (a && !b);
                onlyOther = onlyOther || (b && !a);
                if (a != b && witness == null) {
                    witness = length + ": " + text(row);
                }
            }
            count *= ALPHABET.length;
        }
        String name = one + " with " + other;
        int answer = x.compare(0, 1);
        if (witness != null) {
            CHECK.same("witness " + name, x.witness(-1) + ": " + Support.witness(x), witness);
        } else if (answer != 0) {
            CHECK.due("a long row " + name, x.witness(-1) > LONGEST ? 1 : 0, 1);
            checkWitness(x, first, second, name);
        } else {
            CHECK.due("no witness " + name, x.witness(-1), Support.NONE);
        }
        CHECK.due("compare " + name, answer & ((onlyOne ? 2 : 0) + (onlyOther ? 1 : 0)),
                (onlyOne ? 2 : 0) + (onlyOther ? 1 : 0));
        if (onlyOne && !onlyOther) {
            CHECK.due("and back " + name, x.compare(1, 0), answer == 2 ? 1 : 3);
        }
    }

    private static void checkWitness(ProtocolMachines x, Table first, Table second, String name) {
        int[] row = new int[x.witness(-1)];
        for (int i = 0; i < row.length; i++) {
            row[i] = x.witness(i);
        }
        CHECK.due("just one has it " + name, first.accepts(row) != second.accepts(row) ? 1 : 0, 1);
    }

    private static String randomRule(Random random, int depth) {
        StringBuilder all = new StringBuilder();
        int pieces = 1 + random.nextInt(3);
        for (int i = 0; i < pieces; i++) {
            int pick = random.nextInt(10);
            if (pick < 3 && depth < 3) {
                all.append('(').append(randomRule(random, depth + 1)).append(')');
            } else if (pick < 4 && i > 0) {
                all.append('|');
                continue;
            } else {
                all.append((char) ('a' + random.nextInt(2))).append(random.nextInt(8) == 0 ? "'" : "");
            }
            all.append(random.nextInt(2) == 0 ? "*+?".substring(random.nextInt(3)).substring(0, 1) : "");
        }
        return all.toString();
    }

    private static void inferOnce(Random random) {
        ProtocolMachines x = new ProtocolMachines();
        int[][][] steps = new int[12][][];
        for (int member = 0; member < 12; member++) {
            steps[member] = new int[random.nextInt(random.nextInt(3) == 0 ? 7 : 3)][];
            for (int i = 0; i < steps[member].length; i++) {
                int kind = random.nextInt(5);
                int[] s = {kind < 2 ? kind : 2, random.nextInt(2), random.nextInt(4)};
                steps[member][i] = s;
                CHECK.due("step", x.step(2, member, s[0], s[1], s[2]), i + 1);
            }
        }
        List<int[]> nexts = new ArrayList<>();
        List<Boolean> ends = new ArrayList<>();
        List<String> known = new ArrayList<>(List.of("00"));
        for (int i = 0; i < known.size(); i++) {
            int[] next = new int[24];
            for (int event = 0; event < 24; event++) {
                String to = event < 12 ? call(steps[event], known.get(i)) : null;
                if (to != null && !known.contains(to)) {
                    known.add(to);
                }
                next[event] = to == null ? -2 : known.indexOf(to);
            }
            nexts.add(next);
            ends.add(true);
        }
        CHECK.due("infer", x.infer(2), 0);
        CHECK.same("inferred", Support.machine(x, 0), LeastModel.least(nexts, ends));
    }

    /** The fields behind a call; null if it throws. */
    private static String call(int[][] steps, String fields) {
        char[] now = fields.toCharArray();
        for (int[] s : steps) {
            boolean has = now[s[1]] == (char) ('0' + s[2]);
            if ((s[0] == 0 && has) || (s[0] == 1 && !has)) {
                return null;
            }
            if (s[0] == 2) {
                now[s[1]] = (char) ('0' + s[2]);
            }
        }
        return new String(now);
    }

    public static void main(String[] args) {
        Random random = new Random(11);
        for (int i = 0; i < 250; i++) {
            String one = randomRule(random, 0);
            compareOnce(one, i % 3 == 0 ? one + "|" + randomRule(random, 1) : randomRule(random, 0));
        }
        compareOnce("a*", "(aa)*|a(aa)*");
        compareOnce("(a|b)(a|b)(a|b)(a|b)(a|b)(a|b)(a|b)b", "(a|b)(a|b)(a|b)(a|b)(a|b)(a|b)(a|b)a");
        for (int i = 0; i < 2000; i++) {
            inferOnce(random);
        }
        longWitness();
        CHECK.finish();
    }

    /** Rows that first differ behind as many events as two machines without a common rhythm allow. */
    private static void longWitness() {
        ProtocolMachines x = new ProtocolMachines();
        Support.rule(x, "(aaaaaaaaaaaaaaaaaaaaaaa)*");
        Support.rule(x, "(aaaaaaaaaaaaaaaaaaaaaa)*|a+");
        Support.rule(x, "(aaaaaaaaaaaaaaaaaaaaaaaa)*");
        CHECK.due("23", x.states(0), 23);
        CHECK.due("24", x.states(2), 24);
        CHECK.due("neither", x.compare(0, 2), 3);
        CHECK.due("23 a", x.witness(-1), 23);
        CHECK.due("one that has all", x.compare(0, 1), 1);
        CHECK.due("one a", x.witness(-1), 1);
    }
}
