/** Promises 5 to 10: a test of its own for each sentence with a boundary case. */
public final class BoundaryMachinesTest {
    private static final int BAD = Support.BAD, NONE = Support.NONE;
    private static final int LEAST = Integer.MIN_VALUE, MOST = Integer.MAX_VALUE;
    private static final Support CHECK = new Support("BoundaryMachinesTest");

    public static void main(String[] args) {
        events();
        leastMachine();
        howManyStates();
        numbersOfStates();
        leads();
        endsOfSets();
        endOrNot();
        seesOwners();
        seesOrNot();
        compared();
        comparedFarAhead();
        latestCompare();
        shortestRow();
        howManyEvents();
        noWitness();
        CHECK.finish();
    }

    private static void due(String what, long got, long want) {
        CHECK.due(what, got, want);
    }

    /** Twelve machines, those behind the rules that are told being "a". */
    private static Run twelve(String... rules) {
        Run x = Run.with(rules);
        for (int i = rules.length; i < 12; i++) {
            due("machine " + i, x.rule("a"), i);
        }
        return x;
    }

    private static void events() {
        CHECK.sentence(6, "EVENTS are 0 .. 23: 0 .. 11 the MEMBERS a .. l called on an object itself, 12 .. 23 the"
                + " same on its OWNER.");
        Run x = Run.with("a|b|c|d|e|f|g|h|i|j|k|l", "a'|b'|c'|d'|e'|f'|g'|h'|i'|j'|k'|l'", "a|l'", "l|a'");
        for (int event = 0; event < 24; event++) {
            due("of itself " + event, x.next(0, 0, event), event < 12 ? 1 : NONE);
            due("of its owner " + event, x.next(1, 0, event), event < 12 ? NONE : 1);
            due("the outer ones " + event, x.next(2, 0, event), event == 0 || event == 23 ? 1 : NONE);
            due("the inner ones " + event, x.next(3, 0, event), event == 11 || event == 12 ? 1 : NONE);
        }
        due("event 24", x.next(0, 0, 24), BAD);
        due("event -1", x.next(0, 0, -1), BAD);
    }

    private static void leastMachine() {
        CHECK.sentence(5, "THE MACHINE of a set of rows: its STATES are the sets of rows that can be gone on with in"
                + " just the same ways to rows of it, but those that can't be at all (BROKEN).");
        String[] rules = {"", ".*", "(a|b)*", "a", "ab|ac", "a(b|c)", "(a|b)(a|b)", "aa|ab|ba|bb", "(a*)*", "a?a?",
            "a|aa|", "(ab)*|(ab)*", "a'a|b'a"};
        int[] states = {1, 1, 1, 2, 3, 3, 3, 3, 1, 3, 3, 2, 3};
        for (int i = 0; i < rules.length; i++) {
            due("states of " + rules[i], Run.with(rules[i]).states(0), states[i]);
        }
        CHECK.same("what can't be gone on with is no state", Run.with("a").machine(0), "[ 0:1][end]");
        CHECK.same("one that leads nowhere but is a row is one", Run.with("ab|b").machine(0), "[ 0:1 1:2][ 1:2][end]");
    }

    private static void howManyStates() {
        CHECK.sentence(5, "How many STATES a MACHINE has. BAD.");
        Run one = new Run();
        due("none there", one.states(0), BAD);
        Run x = twelve("", "a".repeat(23));
        due("the fewest", x.states(0), 1);
        due("the most", x.states(1), 24);
        due("the last machine", x.states(11), 2);
        for (int machine : new int[] {12, 13, -1, LEAST, MOST}) {
            due("machine " + machine, x.states(machine), BAD);
        }
        Run y = Run.with("a");
        due("the only one", y.states(0), 2);
        due("the first that is not there", y.states(1), BAD);
        due("a fault makes none", y.rule(")"), -10);
        due("so it is still not there", y.states(1), BAD);
        due("no room makes none", y.rule("a".repeat(24)), Support.FULL);
        due("nor then", y.states(1), BAD);
    }

    private static void numbersOfStates() {
        CHECK.sentence(6, "STATE 0 has the row without EVENTS; then, STATES in order, EVENTS in order, each new one"
                + " gets the next number.");
        CHECK.same("events in order", Run.with("a'b|la|ab'").machine(0), "[ 0:1 11:2 12:3][ 13:4][ 0:4][ 1:4][end]");
        CHECK.same("not the order of the text", Run.with("ca|ba|ab").machine(0), "[ 0:1 1:2 2:2][ 1:3][ 0:3][end]");
        CHECK.same("states in order", Run.with("baa|abbb").machine(0),
                "[ 0:1 1:2][ 1:3][ 0:4][ 1:5][ 0:6][ 1:6][end]");
        CHECK.same("back to 0", Run.with("(ab)*").machine(0), "[end 0:1][ 1:0]");
        CHECK.same("state 0 is left for good", Run.with("a+").machine(0), "[ 0:1][end 0:1]");
    }

    private static void leads() {
        CHECK.sentence(6, "Where a STATE leads by an EVENT; NONE: to BROKEN. BAD.");
        Run x = twelve("a".repeat(22) + "l'", "(ab)*");
        due("the first state", x.next(0, 0, 0), 1);
        due("the last event", x.next(0, 22, 23), 23);
        due("of the last state", x.next(0, 23, 0), NONE);
        due("the last of all", x.next(0, 23, 23), NONE);
        due("back to state 0", x.next(1, 1, 1), 0);
        due("to broken", x.next(1, 1, 0), NONE);
        for (int wrong : new int[] {-1, LEAST, MOST}) {
            due("machine " + wrong, x.next(wrong, 0, 0), BAD);
            due("state " + wrong, x.next(0, wrong, 0), BAD);
            due("event " + wrong, x.next(0, 0, wrong), BAD);
        }
        due("the last machine", x.next(11, 0, 0), 1);
        due("machine 12", x.next(12, 0, 0), BAD);
        due("state 24", x.next(0, 24, 0), BAD);
        due("state 2 of two", x.next(1, 2, 0), BAD);
        due("event 24", x.next(0, 0, 24), BAD);
        due("BAD ahead of NONE", x.next(1, 2, 11), BAD);
        due("none there", new Run().next(0, 0, 0), BAD);
    }

    private static void endsOfSets() {
        CHECK.sentence(7, "A STATE is an END if its rows are rows of the set themselves.");
        Run x = Run.with("", "a", "a?", "a*", "a+", "ab?c");
        due("the row without events", x.ends(0, 0), 1);
        due("not of a", x.ends(1, 0), 0);
        due("a", x.ends(1, 1), 1);
        due("not of a?", x.ends(2, 0), 1);
        due("a?", x.ends(2, 1), 1);
        due("a*", x.ends(3, 0), 1);
        due("not of a+", x.ends(4, 0), 0);
        due("a+", x.ends(4, 1), 1);
        int[] want = {0, 0, 0, 1};
        for (int state = 0; state < 4; state++) {
            due("ab?c " + state, x.ends(5, state), want[state]);
        }
    }

    private static void endOrNot() {
        CHECK.sentence(7, "Whether a STATE is an END: 1 or 0. BAD.");
        Run x = twelve("a".repeat(23), "");
        due("the last state but one", x.ends(0, 22), 0);
        due("the last state", x.ends(0, 23), 1);
        due("state 24", x.ends(0, 24), BAD);
        due("the only state", x.ends(1, 0), 1);
        due("state 1 of one", x.ends(1, 1), BAD);
        due("the last machine", x.ends(11, 1), 1);
        due("machine 12", x.ends(12, 0), BAD);
        for (int wrong : new int[] {-1, LEAST, MOST}) {
            due("machine " + wrong, x.ends(wrong, 0), BAD);
            due("state " + wrong, x.ends(0, wrong), BAD);
        }
        due("none there", new Run().ends(0, 0), BAD);
    }

    private static void seesOwners() {
        CHECK.sentence(8, "A MACHINE SEES OWNERS if some STATE of it leads on by an EVENT of 12 .. 23.");
        String[] seeing = {"a'", "l'", "a|l'", "a".repeat(22) + "a'", "(a|b'?)*", "a'?"};
        for (String rule : seeing) {
            due("sees: " + rule, Run.with(rule).sees(0), 1);
        }
        String[] blind = {"", "a", "l", ".", ".*", "(.|l)*", "a".repeat(23)};
        for (String rule : blind) {
            due("does not: " + rule, Run.with(rule).sees(0), 0);
        }
        Run x = new Run();
        x.infer(0);
        due("an inferred one does not", x.sees(0), 0);
    }

    private static void seesOrNot() {
        CHECK.sentence(8, "Whether a MACHINE SEES OWNERS: 1 or 0. BAD.");
        Run x = twelve("a'", "a");
        due("1", x.sees(0), 1);
        due("0", x.sees(1), 0);
        due("the last machine", x.sees(11), 0);
        for (int wrong : new int[] {12, -1, LEAST, MOST}) {
            due("machine " + wrong, x.sees(wrong), BAD);
        }
        due("none there", new Run().sees(0), BAD);
    }

    private static void compared() {
        CHECK.sentence(9, "The rows of MACHINES m and n: 0 the same, 1 all of m are of n, 2 all of n are of m,"
                + " 3 neither. BAD.");
        Run x = twelve("", "a", "a?", "a*", "a'", "(a|a')*", "aa|", "b");
        due("one with itself", x.compare(0, 0), 0);
        due("the same of two", x.compare(1, 11), 0);
        due("only the row without events", x.compare(0, 1), 3);
        due("it is of a?", x.compare(0, 2), 1);
        due("and the other way around", x.compare(2, 0), 2);
        due("all of a? are of a*", x.compare(2, 3), 1);
        due("one row in two longer", x.compare(6, 3), 1);
        due("neither", x.compare(2, 6), 3);
        due("the owner's a is none of its own", x.compare(1, 4), 3);
        due("both are", x.compare(5, 4), 2);
        due("a and b", x.compare(1, 7), 3);
        for (int wrong : new int[] {12, -1, LEAST, MOST}) {
            due("m = " + wrong, x.compare(wrong, 0), BAD);
            due("n = " + wrong, x.compare(0, wrong), BAD);
            due("both " + wrong, x.compare(wrong, wrong), BAD);
        }
        due("none there", new Run().compare(0, 0), BAD);
    }

    private static void comparedFarAhead() {
        CHECK.sentence(9, "1 all of m are of n, 2 all of n are of m, 3 neither.");
        // So many a's as 23 divides; all but those that leave 1 when divided by 24, or by 23.
        Run x = Run.with("(" + "a".repeat(23) + ")*", "(" + "a".repeat(24) + ")*(aa" + "a?".repeat(21) + ")?",
                "(" + "a".repeat(23) + ")*(aa" + "a?".repeat(20) + ")?");
        due("states", x.states(1), 24);
        due("just 529 = 23 23 = 24 22 + 1 a's are of the one and not of the other", x.compare(0, 1), 3);
        due("nor are all of the other of the one", x.compare(1, 0), 3);
        CHECK.same("the shortest row is of the other", x.row(), "0 0");
        due("all of the one", x.compare(0, 2), 1);
        due("all of the other", x.compare(2, 0), 2);
    }

    private static void latestCompare() {
        CHECK.sentence(10, "Of the latest compare() that was not BAD:");
        Run x = Run.with("a", "b", "ab", "");
        due("none yet", x.witness(-1), NONE);
        due("BAD before any", x.compare(0, 4), BAD);
        due("still none", x.witness(-1), NONE);
        x.compare(0, 2);
        CHECK.same("a", x.row(), "0");
        due("BAD", x.compare(4, 0), BAD);
        due("BAD", x.compare(0, -1), BAD);
        CHECK.same("still a", x.row(), "0");
        x.compare(1, 2);
        CHECK.same("b", x.row(), "1");
        x.rule("(");
        x.rule("aa");
        x.infer(0);
        CHECK.same("machines more do not change it", x.row(), "1");
        due("the same", x.compare(1, 1), 0);
        due("which has none", x.witness(-1), NONE);
        due("BAD behind it", x.compare(9, 9), BAD);
        due("has none, too", x.witness(-1), NONE);
    }

    private static void shortestRow() {
        CHECK.sentence(10, "EVENT i of the shortest row that just one of both has, of several the least one where"
                + " they first differ;");
        Run x = Run.with("", "a|l'", "b|a'", "aaa|bb|ca", "aaa|bb", "l|ab", "ab", "(a|b)(a|b)l'|(a|b)(a|b)a",
                "(a|b)(a|b)a", "a".repeat(22) + "(" + "a".repeat(23) + ")*",
                "a".repeat(22) + "(" + "a".repeat(24) + ")*");
        x.compare(0, 1);
        due("the row without events is shorter than any", x.witness(-1), 0);
        x.compare(1, 2);
        CHECK.same("a ahead of b, a', l'", x.row(), "0");
        x.compare(3, 4);
        CHECK.same("ca", x.row(), "2 0");
        x.compare(3, 6);
        CHECK.same("the shorter ones, of these ab", x.row(), "0 1");
        x.compare(5, 6);
        CHECK.same("l is shorter than ab", x.row(), "11");
        x.compare(7, 8);
        CHECK.same("the first place counts most", x.row(), "0 0 23");
        // Both have 22 a's, and neither a row of 23 to 44; then the one has 45 and the other 46.
        due("a long one", x.compare(9, 10), 3);
        due("45 events", x.witness(-1), 45);
        for (int i = 0; i < 45; i++) {
            due("event " + i, x.witness(i), 0);
        }
        due("behind the last", x.witness(45), NONE);
    }

    private static void howManyEvents() {
        CHECK.sentence(10, "i = -1: how many.");
        Run x = Run.with("", "a", "ab", "abc'");
        x.compare(0, 1);
        due("none", x.witness(-1), 0);
        x.compare(2, 3);
        due("two", x.witness(-1), 2);
    }

    private static void noWitness() {
        CHECK.sentence(10, "NONE: they were the same, there was none, or no such EVENT.");
        Run x = Run.with("", "a", "ab", "a|");
        for (int i : new int[] {-2, -1, 0, 1, LEAST, MOST}) {
            due("no compare: " + i, x.witness(i), NONE);
        }
        x.compare(1, 2);
        due("event 0", x.witness(0), 0);
        for (int i : new int[] {1, 2, -2, LEAST, MOST}) {
            due("no such event: " + i, x.witness(i), NONE);
        }
        x.compare(0, 1);
        due("the row without events", x.witness(-1), 0);
        due("has no event 0", x.witness(0), NONE);
        x.compare(2, 2);
        for (int i : new int[] {-2, -1, 0, 1, LEAST, MOST}) {
            due("the same: " + i, x.witness(i), NONE);
        }
    }
}
