/** Promises 14 to 16, what ops do and when a machine is kept: a test of its own for each sentence. */
public final class BoundaryCodeTest {
    private static final int BAD = Support.BAD, NONE = Support.NONE, FULL = Support.FULL;
    private static final int NEW = Support.NEW, FROM = Support.FROM, COPY = Support.COPY, DROP = Support.DROP;
    private static final int CALL = Support.CALL, FORK = Support.FORK, JUMP = Support.JUMP, IF = Support.IF;
    private static final int PUT = Support.PUT, GET = Support.GET, EMPTY = Support.EMPTY, RETURN = Support.RETURN;
    private static final int[] OUTSIDE = {-1, Integer.MIN_VALUE, Integer.MAX_VALUE};
    private static final Support CHECK = new Support("BoundaryCodeTest");

    public static void main(String[] args) {
        methodsAndPlaces();
        numbersOfOps();
        badOps();
        fullOps();
        wiped();
        badWipe();
        variables();
        oneBag();
        whereThereIsNone();
        opNew();
        opFrom();
        opCopy();
        opDrop();
        opCall();
        opFork();
        opJump();
        opIf();
        opPut();
        opGet();
        opEmpty();
        opReturn();
        callOfNone();
        rows();
        ownersNotSeen();
        breaks();
        kept();
        judged();
        badJudge();
        CHECK.finish();
    }

    private static void due(String what, long got, long want) {
        CHECK.due(what, got, want);
    }

    private static int[] o(int... numbers) {
        return numbers;
    }

    /** Whether a rule is kept for kind 0 by a method; if it is not, by which way. */
    private static void kept(String what, String rule, int[]... ops) {
        due(what, Run.with(rule).code(0, ops).judge(0, 0, 0), 1);
    }

    private static void broken(String what, String way, String rule, int[]... ops) {
        Run x = Run.with(rule).code(0, ops);
        due(what, x.judge(0, 0, 0), 0);
        CHECK.same(what, x.places(), way);
    }

    private static void methodsAndPlaces() {
        CHECK.sentence(14, "METHODS 0 .. 3 have OPS, 32 at most, at PLACES from 0 on;");
        Run x = new Run();
        for (int place = 0; place < 32; place++) {
            for (int method = 0; method < 4; method++) {
                due("place", x.op(method, EMPTY, 0, 0, 0), place);
            }
        }
        for (int method = 0; method < 4; method++) {
            due("the 33rd", x.op(method, EMPTY, 0, 0, 0), FULL);
            due("32", x.told(2 + method), 32);
        }
        due("method 4", x.op(4, EMPTY, 0, 0, 0), BAD);
        due("method -1", x.op(-1, EMPTY, 0, 0, 0), BAD);
    }

    private static void numbersOfOps() {
        CHECK.sentence(14, "An OP more of a METHOD, with its numbers in the order told (0 .. 32 for t; what it has no"
                + " number for does not matter): its PLACE.");
        int least = Integer.MIN_VALUE;
        int most = Integer.MAX_VALUE;
        // The last number of each sort that is taken, then the first one; the others are wild.
        int[][] fine = {{NEW, 5, 3, most}, {FROM, 5, 3, 5}, {COPY, 5, 5, most}, {DROP, 5, least, most},
            {CALL, 5, 11, least}, {FORK, 32, least, most}, {JUMP, 32, most, least}, {IF, 5, 32, least},
            {PUT, 5, most, most}, {GET, 5, least, least}, {EMPTY, least, most, -1}, {RETURN, most, least, 99},
            {NEW, 0, 0, -1}, {FROM, 0, 0, 0}, {COPY, 0, 0, -1}, {DROP, 0, -1, -1}, {CALL, 0, 0, 12}, {FORK, 0, -1, 33},
            {JUMP, 0, -1, 33}, {IF, 0, 0, -1}, {PUT, 0, 6, 6}, {GET, 0, 6, 6}, {EMPTY, 6, 6, 6}, {RETURN, 33, 33, 33}};
        Run x = new Run();
        for (int i = 0; i < fine.length; i++) {
            due("op " + fine[i][0], x.op(3, fine[i][0], fine[i][1], fine[i][2], fine[i][3]), i);
        }
        due("so many", x.told(5), fine.length);
        // In the order told: variable 1 gets kind 2; FROM: variable 2, kind 0, variable 1; IF: variable, place.
        Run y = Run.with("a|a'");
        y.code(0, o(NEW, 1, 2), o(FROM, 2, 0, 1), o(CALL, 1, 0), o(IF, 2, 5), o(RETURN), o(CALL, 2, 0));
        due("kind 0", y.judge(0, 0, 0), 1);
        due("kind 2", y.judge(0, 2, 0), 1);
        due("kind 1", y.judge(0, 1, 0), 1);
    }

    private static void badOps() {
        CHECK.sentence(14, "BAD; FULL: 32.");
        Run x = new Run();
        int[][] last = {{NEW, 5, 3}, {FROM, 5, 3, 5}, {COPY, 5, 5}, {DROP, 5}, {CALL, 5, 11}, {FORK, 32}, {JUMP, 32},
            {IF, 5, 32}, {PUT, 5}, {GET, 5}};
        for (int[] op : last) {
            for (int which = 1; which < op.length; which++) {
                for (int wrong : new int[] {op[which] + 1, -1, Integer.MIN_VALUE, Integer.MAX_VALUE}) {
                    int[] n = {op[0], op[1], op.length > 2 ? op[2] : 0, op.length > 3 ? op[3] : 0};
                    n[which] = wrong;
                    due("op " + op[0] + ", number " + which + " is " + wrong, x.op(0, n[0], n[1], n[2], n[3]), BAD);
                }
            }
        }
        due("op 12", x.op(0, 12, 0, 0, 0), BAD);
        due("method 4", x.op(4, EMPTY, 0, 0, 0), BAD);
        for (int wrong : OUTSIDE) {
            due("op " + wrong, x.op(0, wrong, 0, 0, 0), BAD);
            due("method " + wrong, x.op(wrong, EMPTY, 0, 0, 0), BAD);
        }
        for (int method = 0; method < 4; method++) {
            due("nothing of what was refused", x.told(2 + method), 0);
        }
    }

    private static void fullOps() {
        CHECK.sentence(14, "FULL: 32.");
        Run x = Run.with("");
        for (int i = 0; i < 32; i++) {
            due("op " + i, x.op(0, i == 31 ? NEW : EMPTY, 0, 0, 0), i);
        }
        due("the 33rd", x.op(0, CALL, 0, 0, 0), FULL);
        due("BAD ahead of FULL, op", x.op(0, 12, 0, 0, 0), BAD);
        due("BAD ahead of FULL, number", x.op(0, CALL, 0, 12, 0), BAD);
        due("BAD ahead of FULL, place", x.op(0, JUMP, 33, 0, 0), BAD);
        due("still 32", x.told(2), 32);
        due("another method has room", x.op(1, CALL, 0, 0, 0), 0);
        due("the 33rd is not there", x.judge(0, 0, 0), 1);
    }

    private static void wiped() {
        CHECK.sentence(15, "A METHOD has no OPS any more: how many there were. BAD.");
        Run x = Run.with("");
        due("none", x.wipe(0), 0);
        for (int i = 0; i < 32; i++) {
            x.op(0, i == 0 ? NEW : CALL, 0, 0, 0);
            x.op(3, EMPTY, 0, 0, 0);
        }
        due("broken before", x.judge(0, 0, 0), 0);
        due("the most", x.wipe(0), 32);
        due("told", x.told(2), 0);
        due("kept then", x.judge(0, 0, 0), 1);
        due("one shape", x.shapes(), 1);
        due("none any more", x.wipe(0), 0);
        due("from place 0 on", x.op(0, NEW, 0, 0, 0), 0);
        due("no old ops behind it", x.judge(0, 0, 0), 1);
        due("the last method keeps its own", x.told(5), 32);
        due("32 again", x.wipe(3), 32);
        for (int i = 0; i < 32; i++) {
            due("room for 32", x.op(3, EMPTY, 0, 0, 0), i);
        }
        due("and no more", x.op(3, EMPTY, 0, 0, 0), FULL);
    }

    private static void badWipe() {
        CHECK.sentence(15, "BAD.");
        Run x = new Run().code(3, o(EMPTY));
        due("method 4", x.wipe(4), BAD);
        for (int method : OUTSIDE) {
            due("method " + method, x.wipe(method), BAD);
        }
        due("nothing changed", x.told(5), 1);
        due("method 3", x.wipe(3), 1);
    }

    private static void variables() {
        CHECK.sentence(16, "variables 0 .. 5 have an object or none, all none at first;");
        for (int v = 0; v < 6; v++) {
            Run x = Run.with("").code(0, o(IF, v, 3), o(NEW, 0, 0), o(CALL, 0, 0), o(RETURN));
            due("none at first in " + v, x.judge(0, 0, 0), 1);
            due("so that just two places are come to", x.shapes(), 2);
            Run y = Run.with("").code(0, o(NEW, v, 0), o(IF, v, 3), o(CALL, v, 0));
            due("an object in " + v, y.judge(0, 0, 0), 0);
            CHECK.same("which is called", y.places(), "0 1 2");
        }
        Run z = new Run();
        due("variable 6", z.op(0, NEW, 6, 0, 0), BAD);
        due("variable -1", z.op(0, NEW, -1, 0, 0), BAD);
        // Six objects at once, each in its own variable.
        broken("six", "0 1 2 3 4 5 6 7 8 9 10 11", "a", o(NEW, 0, 0), o(NEW, 1, 0), o(NEW, 2, 0), o(NEW, 3, 0),
                o(NEW, 4, 0), o(NEW, 5, 0), o(CALL, 0, 0), o(CALL, 1, 0), o(CALL, 2, 0), o(CALL, 3, 0), o(CALL, 4, 0));
        kept("all six are called", "a", o(NEW, 0, 0), o(NEW, 1, 0), o(NEW, 2, 0), o(NEW, 3, 0), o(NEW, 4, 0),
                o(NEW, 5, 0), o(CALL, 0, 0), o(CALL, 1, 0), o(CALL, 2, 0), o(CALL, 3, 0), o(CALL, 4, 0), o(CALL, 5, 0));
    }

    private static void oneBag() {
        CHECK.sentence(16, "there is one BAG, empty at first.");
        Run x = Run.with("").code(0, o(GET, 0), o(IF, 0, 4), o(NEW, 0, 0), o(CALL, 0, 0));
        due("empty at first", x.judge(0, 0, 0), 1);
        due("three places", x.shapes(), 3);
        // What was put from two variables is all in it: any of both may come.
        Run y = Run.with("a?b?").code(0, o(NEW, 0, 0), o(NEW, 1, 0), o(PUT, 0), o(PUT, 1), o(GET, 2), o(CALL, 2, 1),
                o(CALL, 0, 0));
        due("the first may be got", y.judge(0, 0, 0), 0);
        CHECK.same("by this way", y.places(), "0 1 2 3 4 5 6");
        y.wipe(0);
        y.code(0, o(NEW, 0, 0), o(NEW, 1, 0), o(PUT, 0), o(PUT, 1), o(GET, 2), o(CALL, 2, 1), o(CALL, 1, 0));
        due("the second may be got", y.judge(0, 0, 0), 0);
        Run z = Run.with("").code(0, o(NEW, 0, 0), o(PUT, 0)).code(1, o(GET, 0), o(CALL, 0, 0));
        due("a run of the one", z.judge(0, 0, 0), 1);
        due("leaves none to that of another method", z.judge(1, 0, 0), 1);
        due("of which there are two shapes", z.shapes(), 2);
    }

    private static void whereThereIsNone() {
        CHECK.sentence(16, "A RUN begins at OP 0, and goes OP by OP; where there is none it is a RETURN.");
        Run none = Run.with("a");
        due("no ops", none.judge(0, 0, 0), 1);
        due("a return at place 0", none.shapes(), 1);
        broken("behind the last op", "0 1", "a", o(NEW, 0, 0));
        broken("the first place with none", "0 1 2", "a", o(NEW, 0, 0), o(JUMP, 2));
        broken("one far behind", "0 1 31", "a", o(NEW, 0, 0), o(JUMP, 31));
        broken("place 32", "0 1 32", "a", o(NEW, 0, 0), o(JUMP, 32));
        int[][] full = new int[32][];
        StringBuilder way = new StringBuilder();
        for (int i = 0; i < 32; i++) {
            full[i] = i == 31 ? o(NEW, 0, 0) : o(EMPTY);
            way.append(i).append(' ');
        }
        broken("place 32 behind 32 ops", way + "32", "a", full);
        full[0] = o(JUMP, 31);
        broken("op 31", "0 31 32", "a", full);
    }

    private static void opNew() {
        CHECK.sentence(16, "0 NEW v, k: a new object of KIND k (0 .. 3), without an OWNER, comes into v.");
        for (int kind = 0; kind < 4; kind++) {
            Run x = Run.with("a").code(0, o(NEW, 0, kind));
            for (int other = 0; other < 4; other++) {
                due("made " + kind + ", judged " + other, x.judge(0, other, 0), other == kind ? 0 : 1);
            }
        }
        due("kind 4", new Run().op(0, NEW, 0, 4, 0), BAD);
        // Nobody's call is its owner's, not even that of the one whose place it took.
        kept("without an owner", "", o(NEW, 0, 1), o(COPY, 1, 0), o(NEW, 0, 0), o(CALL, 1, 0));
        broken("no owner's call comes", "0 1 2 3 4", "a'", o(NEW, 0, 1), o(COPY, 1, 0), o(NEW, 0, 0), o(CALL, 1, 0));
        // The one that was in v is lost, but has its row.
        broken("the lost one", "0 1 2 3", "a", o(NEW, 0, 0), o(NEW, 0, 0), o(CALL, 0, 0));
    }

    private static void opFrom() {
        CHECK.sentence(16, "1 FROM v, k, w: likewise, its OWNER being that of w.");
        kept("the owner is that of w", "a'", o(NEW, 0, 1), o(FROM, 1, 0, 0), o(CALL, 0, 0));
        broken("its own call is none of the owner", "0 1 2", "a'", o(NEW, 0, 1), o(FROM, 1, 0, 0), o(CALL, 1, 0));
        kept("v and w the same: the old one is the owner", "a'", o(NEW, 0, 1), o(COPY, 1, 0), o(FROM, 0, 0, 0),
                o(CALL, 1, 0));
        broken("v has the new one", "0 1 2 3", "a'", o(NEW, 0, 1), o(COPY, 1, 0), o(FROM, 0, 0, 0), o(CALL, 0, 0));
        kept("what w has later is not the owner", "a'", o(NEW, 0, 1), o(FROM, 1, 0, 0), o(COPY, 2, 0), o(NEW, 0, 1),
                o(CALL, 0, 1), o(CALL, 2, 0));
        kept("the owner's owner is not its own", "b'", o(NEW, 0, 1), o(FROM, 1, 1, 0), o(FROM, 2, 0, 1), o(CALL, 0, 0),
                o(CALL, 1, 1));
        kept("an owner of the same kind", "(a|a')*", o(NEW, 0, 0), o(FROM, 1, 0, 0), o(CALL, 0, 0), o(CALL, 1, 0));
        broken("what the owner has taken", "0 1 2 3", "a", o(NEW, 0, 0), o(FROM, 1, 0, 0), o(CALL, 0, 0));
        due("kind 4", new Run().op(0, FROM, 0, 4, 0), BAD);
        due("w 6", new Run().op(0, FROM, 0, 0, 6), BAD);
        for (int kind = 0; kind < 4; kind++) {
            Run x = Run.with("a'b").code(0, o(NEW, 5, (kind + 1) % 4), o(FROM, 4, kind, 5), o(CALL, 5, 0),
                    o(CALL, 4, 1));
            due("of kind " + kind, x.judge(0, kind, 0), 1);
        }
    }

    private static void opCopy() {
        CHECK.sentence(16, "2 COPY v, w.");
        kept("both have it", "ab", o(NEW, 0, 0), o(COPY, 5, 0), o(CALL, 5, 0), o(CALL, 0, 1));
        kept("the first still when the second is dropped", "a", o(NEW, 0, 0), o(COPY, 1, 0), o(DROP, 1), o(CALL, 0, 0));
        kept("of none: v has none then", "", o(NEW, 0, 0), o(COPY, 0, 1), o(CALL, 0, 0));
        kept("v and w the same", "a", o(NEW, 0, 0), o(COPY, 0, 0), o(CALL, 0, 0));
        kept("both none", "", o(COPY, 0, 0), o(COPY, 0, 1), o(IF, 0, 5), o(NEW, 0, 0), o(CALL, 0, 0));
        due("w 6", new Run().op(0, COPY, 0, 6, 0), BAD);
    }

    private static void opDrop() {
        CHECK.sentence(16, "3 DROP v (it has none).");
        kept("none then", "", o(NEW, 0, 0), o(DROP, 0), o(CALL, 0, 0));
        broken("the row of what was dropped goes on to the end", "0 1 2", "a", o(NEW, 0, 0), o(DROP, 0));
        kept("of none", "", o(DROP, 0), o(IF, 0, 3), o(NEW, 0, 0));
        kept("the others keep theirs", "a", o(NEW, 5, 0), o(DROP, 4), o(CALL, 5, 0));
    }

    private static void opCall() {
        CHECK.sentence(16, "4 CALL v, m: MEMBER m is called on that of v.");
        for (int member = 0; member < 12; member++) {
            String rule = "" + (char) ('a' + member);
            kept("member " + member, rule, o(NEW, 5, 0), o(CALL, 5, member));
            broken("no other", "0 1", rule, o(NEW, 5, 0), o(CALL, 5, (member + 1) % 12));
        }
        due("member 12", new Run().op(0, CALL, 0, 12, 0), BAD);
    }

    private static void opFork() {
        CHECK.sentence(16, "5 FORK t: the run goes on, or to OP t.");
        broken("it goes on", "0 1 2", "", o(NEW, 0, 0), o(FORK, 3), o(CALL, 0, 0));
        broken("or to t", "0 1 3", "", o(NEW, 0, 0), o(FORK, 3), o(RETURN), o(CALL, 0, 0));
        broken("to place 0", "0 2 3 0 1", "", o(IF, 0, 2), o(CALL, 0, 1), o(NEW, 0, 0), o(FORK, 0));
        broken("to place 32", "0 1 32", "a", o(NEW, 0, 0), o(FORK, 32), o(CALL, 0, 0));
        kept("to itself", "a", o(NEW, 0, 0), o(FORK, 1), o(CALL, 0, 0));
        Run x = Run.with("a").code(0, o(NEW, 0, 0), o(FORK, 2), o(CALL, 0, 0));
        due("to the next", x.judge(0, 0, 0), 1);
        due("is just as going on", x.shapes(), 7);
    }

    private static void opJump() {
        CHECK.sentence(16, "6 JUMP t.");
        kept("over a call", "", o(NEW, 0, 0), o(JUMP, 3), o(CALL, 0, 0));
        kept("to itself, for ever", "a", o(NEW, 0, 0), o(JUMP, 1));
        kept("to place 0, for ever", "a", o(NEW, 0, 0), o(JUMP, 0));
        broken("to place 32", "0 1 32", "a", o(NEW, 0, 0), o(JUMP, 32), o(CALL, 0, 0));
    }

    private static void opIf() {
        CHECK.sentence(16, "7 IF v, t: to OP t if v has none.");
        broken("it has one: on", "0 1 2", "", o(NEW, 0, 0), o(IF, 0, 3), o(CALL, 0, 0));
        kept("it has none: to t", "", o(NEW, 0, 0), o(IF, 5, 3), o(CALL, 0, 0));
        broken("to place 32", "0 1 32", "a", o(NEW, 0, 0), o(IF, 1, 32), o(CALL, 0, 0));
        kept("to place 0, for ever", "a", o(NEW, 0, 0), o(IF, 1, 0), o(RETURN));
        kept("to itself, for ever", "a", o(NEW, 0, 0), o(IF, 1, 1), o(RETURN));
    }

    private static void opPut() {
        CHECK.sentence(16, "8 PUT v: its object is in the BAG, too (of none nothing).");
        kept("it is in the bag and in v", "ab", o(NEW, 0, 0), o(PUT, 0), o(GET, 1), o(CALL, 1, 0), o(CALL, 0, 1));
        kept("of none nothing", "", o(PUT, 0), o(GET, 1), o(IF, 1, 5), o(NEW, 2, 0), o(CALL, 2, 0));
        kept("none beside one: just the one can come", "a", o(NEW, 0, 0), o(PUT, 0), o(PUT, 1), o(GET, 2),
                o(CALL, 2, 0));
        kept("twice is once", "a", o(NEW, 0, 0), o(PUT, 0), o(PUT, 0), o(GET, 1), o(CALL, 1, 0));
        kept("also when v is dropped", "a", o(NEW, 0, 0), o(PUT, 0), o(DROP, 0), o(GET, 0), o(CALL, 0, 0));
    }

    private static void opGet() {
        CHECK.sentence(16, "9 GET v: some object of the BAG comes into v (it stays in the BAG); none, if the BAG is"
                + " empty.");
        kept("it stays in the bag", "abc", o(NEW, 0, 0), o(PUT, 0), o(GET, 1), o(CALL, 1, 0), o(GET, 2), o(CALL, 2, 1),
                o(GET, 1), o(CALL, 1, 2));
        kept("none of an empty bag, though v had one", "", o(NEW, 0, 0), o(GET, 0), o(CALL, 0, 0));
        broken("any of two", "0 1 2 3 4 5 6", "aa", o(NEW, 0, 0), o(PUT, 0), o(NEW, 1, 0), o(PUT, 1), o(GET, 2),
                o(CALL, 2, 0));
        // The third and last of the three sorts that there are.
        broken("the owner of it", "0 1 2 3 4 5 6 7 8", "(b|b')*", o(NEW, 0, 1), o(NEW, 1, 1), o(FROM, 2, 0, 0),
                o(PUT, 1),
                o(PUT, 2), o(PUT, 0), o(GET, 3), o(CALL, 3, 1), o(CALL, 3, 0));
        for (int v = 0; v < 6; v++) {
            kept("what variable " + v + " has is not in the bag", "", o(NEW, v, 0), o(COPY, 5 - v, v), o(GET, v),
                    o(CALL, v, 0));
            kept("from variable " + v + " into the bag", "a", o(NEW, v, 0), o(PUT, v), o(DROP, v), o(GET, 5 - v),
                    o(CALL, 5 - v, 0));
        }
        kept("v is one of those that put", "a", o(NEW, 0, 0), o(PUT, 0), o(GET, 0), o(CALL, 0, 0));
    }

    private static void opEmpty() {
        CHECK.sentence(16, "10 EMPTY: nothing is in the BAG.");
        kept("none can be got", "", o(NEW, 0, 0), o(PUT, 0), o(EMPTY), o(GET, 0), o(CALL, 0, 0));
        kept("of an empty bag", "", o(EMPTY), o(GET, 0), o(IF, 0, 4), o(NEW, 0, 0));
        kept("what is put later is there", "a", o(NEW, 0, 1), o(PUT, 0), o(EMPTY), o(NEW, 1, 0), o(PUT, 1), o(GET, 2),
                o(CALL, 2, 0));
        kept("variables keep theirs", "a", o(NEW, 0, 0), o(PUT, 0), o(EMPTY), o(CALL, 0, 0));
    }

    private static void opReturn() {
        CHECK.sentence(16, "11 RETURN: the run ENDS.");
        Run x = Run.with("").code(0, o(RETURN), o(NEW, 0, 0), o(CALL, 0, 0));
        due("nothing behind it", x.judge(0, 0, 0), 1);
        due("one shape", x.shapes(), 1);
        broken("it breaks there", "0 1", "a", o(NEW, 0, 0), o(RETURN), o(CALL, 0, 0));
    }

    private static void callOfNone() {
        CHECK.sentence(16, "CALL, and FROM w, of none: the run ENDS there.");
        kept("a call of none", "", o(NEW, 0, 0), o(CALL, 1, 0), o(CALL, 0, 0));
        kept("from none", "", o(NEW, 0, 0), o(FROM, 1, 0, 1), o(CALL, 0, 0));
        broken("a call of none at no end", "0 1", "a", o(NEW, 0, 0), o(CALL, 1, 0), o(CALL, 0, 0));
        broken("from none at no end", "0 1", "a", o(NEW, 0, 0), o(FROM, 1, 0, 1), o(CALL, 0, 0));
        Run x = Run.with("a").code(0, o(CALL, 0, 0), o(NEW, 0, 0)).code(1, o(FROM, 0, 0, 0), o(NEW, 0, 0));
        due("at once", x.judge(0, 0, 0), 1);
        due("one shape", x.shapes(), 1);
        due("at once from none", x.judge(1, 0, 0), 1);
        due("and no object", x.shapes(), 1);
        kept("copies, puts and ifs of none do not end it", "a", o(NEW, 0, 0), o(COPY, 1, 2), o(PUT, 2), o(DROP, 2),
                o(IF, 2, 5), o(CALL, 0, 0));
    }

    private static void rows() {
        CHECK.sentence(16, "THE ROW of an object: from its making on the EVENTS of calls on itself, and on its OWNER,"
                + " in order.");
        kept("what the owner was called ahead of the making is not in it", "b'", o(NEW, 0, 1), o(CALL, 0, 0),
                o(FROM, 1, 0, 0), o(CALL, 0, 1));
        kept("in order", "aa'b'b", o(NEW, 0, 1), o(FROM, 1, 0, 0), o(CALL, 1, 0), o(CALL, 0, 0), o(CALL, 0, 1),
                o(CALL, 1, 1));
        broken("in another order", "0 1 2", "aa'", o(NEW, 0, 1), o(FROM, 1, 0, 0), o(CALL, 0, 0), o(CALL, 1, 0));
        kept("the row without events", "", o(NEW, 0, 0));
        kept("the call of another object is not in it", "", o(NEW, 0, 0), o(NEW, 1, 0), o(FROM, 2, 1, 0),
                o(CALL, 2, 0));
        kept("an owner that no variable has is its owner still", "a'", o(NEW, 0, 1), o(PUT, 0), o(FROM, 0, 0, 0),
                o(GET, 1), o(CALL, 1, 0));
        // Two from one owner: its call is an event of both, and each one's own only of itself.
        kept("two of one owner", "a'b", o(NEW, 0, 1), o(FROM, 1, 0, 0), o(FROM, 2, 0, 0), o(CALL, 0, 0), o(CALL, 1, 1),
                o(CALL, 2, 1));
    }

    private static void ownersNotSeen() {
        CHECK.sentence(16, "For one that does not, the OWNER's calls are no EVENTS.");
        kept("not seen", "b", o(NEW, 0, 1), o(FROM, 1, 0, 0), o(CALL, 0, 0), o(CALL, 1, 1), o(CALL, 0, 11));
        broken("seen, and not in the rule there", "0 1 2", "b|l'", o(NEW, 0, 1), o(FROM, 1, 0, 0), o(CALL, 0, 0),
                o(CALL, 1, 1));
        Run x = new Run().code(0, o(NEW, 0, 1), o(FROM, 1, 0, 0), o(CALL, 0, 0));
        x.step(0, 0, 0, 0, 0);
        due("infer", x.infer(0), 0);
        due("of an inferred one", x.judge(0, 0, 0), 1);
    }

    private static void breaks() {
        CHECK.sentence(16, "A BREAK of a MACHINE at an OP, for objects of a KIND: by this OP the ROW of one of them"
                + " becomes BROKEN; or the run ENDS with it while the ROW of one that was not BROKEN before is at no"
                + " END.");
        broken("by its call", "0 1", "", o(NEW, 0, 0), o(CALL, 0, 0));
        broken("by its owner's call", "0 1 2", "b'?", o(NEW, 0, 1), o(FROM, 1, 0, 0), o(CALL, 0, 0));
        broken("by an end", "0 1", "a", o(NEW, 0, 0), o(RETURN));
        broken("by the end of a call of none", "0 1", "a", o(NEW, 0, 0), o(CALL, 1, 0));
        kept("of other kinds none", "a", o(NEW, 0, 1), o(NEW, 1, 2), o(NEW, 2, 3), o(CALL, 0, 11));
        broken("one of two", "0 1 2 3", "a", o(NEW, 0, 0), o(NEW, 1, 0), o(CALL, 1, 0));
        kept("no end is asked for while it runs", "ab", o(NEW, 0, 0), o(CALL, 0, 0), o(CALL, 0, 1));
        // The nearest of both is the one by the call; the end comes for one that is broken already.
        broken("broken ahead of its end", "0 1", "b", o(NEW, 0, 0), o(CALL, 0, 0), o(RETURN));
    }

    private static void kept() {
        CHECK.sentence(16, "The MACHINE is KEPT if no run has a BREAK.");
        kept("no ops", "a");
        kept("no object of the kind", "a", o(NEW, 0, 1));
        kept("no run that ends", "a", o(NEW, 0, 0), o(EMPTY), o(JUMP, 1));
        broken("one run of many", "0 1 2 4 5", "a", o(FORK, 3), o(FORK, 3), o(FORK, 4), o(RETURN), o(NEW, 0, 0));
        broken("a run around and around", "0 1 2 1 2 1", "aa", o(NEW, 0, 0), o(CALL, 0, 0), o(JUMP, 1));
    }

    private static void judged() {
        CHECK.sentence(16, "Whether a MACHINE is KEPT by a METHOD for objects of a KIND: 1; 0, and THE WAY is told;");
        Run x = Run.with("a", "").code(0, o(NEW, 0, 0)).code(3, o(NEW, 0, 3), o(CALL, 0, 11));
        due("kept", x.judge(0, 0, 1), 1);
        due("no way", x.way(-1), NONE);
        due("not kept", x.judge(0, 0, 0), 0);
        CHECK.same("its way", x.places(), "0 1");
        due("the last method and kind", x.judge(3, 3, 1), 0);
        CHECK.same("its way, too", x.places(), "0 1");
        due("another kind", x.judge(3, 0, 1), 1);
        due("no way again", x.way(-1), NONE);
        due("the same again", x.judge(0, 0, 0), 0);
        CHECK.same("the same way", x.places(), "0 1");
    }

    private static void badJudge() {
        CHECK.sentence(16, "BAD.");
        Run x = new Run();
        due("no machine", x.judge(0, 0, 0), BAD);
        for (int i = 0; i < 12; i++) {
            x.rule("a");
        }
        due("the last of each", x.judge(3, 3, 11), 1);
        due("method 4", x.judge(4, 0, 0), BAD);
        due("kind 4", x.judge(0, 4, 0), BAD);
        due("machine 12", x.judge(0, 0, 12), BAD);
        for (int wrong : OUTSIDE) {
            due("method " + wrong, x.judge(wrong, 0, 0), BAD);
            due("kind " + wrong, x.judge(0, wrong, 0), BAD);
            due("machine " + wrong, x.judge(0, 0, wrong), BAD);
        }
        Run y = Run.with("a").code(0, o(NEW, 0, 0));
        y.judge(0, 0, 0);
        due("the first machine that is not there", y.judge(0, 0, 1), BAD);
        due("shapes as before", y.shapes(), 3);
        CHECK.same("the way as before", y.places(), "0 1");
    }
}
