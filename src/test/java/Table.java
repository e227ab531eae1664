/** A rule's machine, read from objects none of which is asked behind its 512th call. */
final class Table {
    private static final int STATES_AT_ONCE = 16;

    private final int[][] nexts;
    private final boolean[] ends;
    private final boolean sees;

    private Table(int states, boolean sees) {
        this.nexts = new int[states][24];
        this.ends = new boolean[states];
        this.sees = sees;
    }

    static Table of(String rule) {
        Run first = Run.with(rule);
        Table table = new Table(first.states(0), first.sees(0) == 1);
        for (int from = 0; from < table.ends.length; from += STATES_AT_ONCE) {
            Run x = Run.with(rule);
            for (int state = from; state < table.ends.length && state < from + STATES_AT_ONCE; state++) {
                table.ends[state] = x.ends(0, state) == 1;
                for (int event = 0; event < 24; event++) {
                    table.nexts[state][event] = x.next(0, state, event);
                }
            }
        }
        return table;
    }

    static Table[] of(String[] rules) {
        Table[] all = new Table[rules.length];
        for (int i = 0; i < rules.length; i++) {
            all[i] = of(rules[i]);
        }
        return all;
    }

    int next(int state, int event) {
        return nexts[state][event];
    }

    boolean isEnd(int state) {
        return ends[state];
    }

    boolean sees() {
        return sees;
    }

    boolean accepts(int[] row) {
        int state = 0;
        for (int i = 0; i < row.length && state >= 0; i++) {
            state = next(state, row[i]);
        }
        return state >= 0 && isEnd(state);
    }

    /** As Support.machine writes it. */
    String text() {
        StringBuilder all = new StringBuilder();
        for (int state = 0; state < ends.length; state++) {
            all.append(ends[state] ? "[end" : "[");
            for (int event = 0; event < 24; event++) {
                if (next(state, event) != Support.NONE) {
                    all.append(' ').append(event).append(':').append(next(state, event));
                }
            }
            all.append(']');
        }
        return all.toString();
    }
}
