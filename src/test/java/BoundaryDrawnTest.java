import java.util.ArrayList;
import java.util.List;

/** Promises 19 to 22: a test of its own for each sentence with a boundary case. */
public final class BoundaryDrawnTest {
    private static final int BAD = Support.BAD, FULL = Support.FULL;
    private static final int NEW = Support.NEW, FROM = Support.FROM, COPY = Support.COPY, DROP = Support.DROP;
    private static final int CALL = Support.CALL, FORK = Support.FORK, JUMP = Support.JUMP, IF = Support.IF;
    private static final int PUT = Support.PUT, GET = Support.GET, EMPTY = Support.EMPTY, RETURN = Support.RETURN;
    private static final int LEAST = Integer.MIN_VALUE, MOST = Integer.MAX_VALUE;
    private static final int[] OUTSIDE = {-1, LEAST, MOST};
    private static final int[] STARTS = {0, 1, -1, 2, 7, 65535, 65536, -65536, LEAST, LEAST + 1, MOST, MOST - 1, 12345,
        -12345, 1103515245, 123456789, -987654321};
    private static final Support CHECK = new Support("BoundaryDrawnTest");

    public static void main(String[] args) {
        forksWrapAround();
        getsAreNotNegative();
        whenThereIsADraw();
        orderOfTheBag();
        opsOfDrawnRuns();
        noneInDrawnRuns();
        twoHundredOps();
        lastOpCounts();
        leftRunLeavesX();
        soManyRuns();
        fromTheXBefore();
        eachOnce();
        ownersInDrawnRuns();
        badDraw();
        countedThings();
        firstsAndLasts();
        askedForCounts();
        badCounted();
        forgotten();
        told();
        badTold();
        CHECK.finish();
    }

    private static void due(String what, long got, long want) {
        CHECK.due(what, got, want);
    }

    private static int[] o(int... numbers) {
        return numbers;
    }

    /** The x that is drawn from another, by numbers that do not wrap around. */
    private static int drawn(int x) {
        long low = (x * 1103515245L + 12345L) & 0xFFFFFFFFL;
        return (int) (low >= 0x80000000L ? low - 0x100000000L : low);
    }

    /** The upper half of an x, 0 .. 65535. */
    private static int half(int x) {
        return (int) ((x & 0xFFFFFFFFL) / 65536);
    }

    private static int times(int x, int draws) {
        int now = x;
        for (int i = 0; i < draws; i++) {
            now = drawn(now);
        }
        return now;
    }

    /** An x from which so many forks go to t, and the next one goes on. */
    private static int startFor(int jumps) {
        for (int x = 0; x < 1000000; x++) {
            int now = x;
            int odd = 0;
            do {
                now = drawn(now);
                odd += half(now) % 2;
            } while (half(now) % 2 == 1);
            if (odd == jumps) {
                return x;
            }
        }
        throw new IllegalStateException("no such x");
    }

    private static void forksWrapAround() {
        CHECK.sentence(19, "x becomes x 1103515245 + 12345, and r = x >>> 16: FORK goes to t if r is odd;");
        for (int start : STARTS) {
            Run x = Run.with("").code(0, o(FORK, 3), o(NEW, 0, 0), o(RETURN), o(NEW, 0, 1));
            due("a draw from " + start, x.draw(0, 0, 0, start, 1), 0);
            int odd = half(drawn(start)) % 2;
            due("it went on from " + start, x.counted(0, 0, 0, 0), 1 - odd);
            due("it went to t from " + start, x.counted(1, 0, 0, 0), odd);
        }
    }

    private static void getsAreNotNegative() {
        CHECK.sentence(19, "GET takes the one numbered r modulo how many there are.");
        int upper = 0;
        for (int size = 2; size <= 10; size++) {
            List<int[]> ops = new ArrayList<>();
            for (int i = 0; i < size; i++) {
                ops.add(o(NEW, 0, 0));
                ops.add(o(CALL, 0, i));
                ops.add(o(PUT, 0));
            }
            ops.add(o(GET, 1));
            ops.add(o(CALL, 1, 11));
            for (int start : STARTS) {
                Run x = Run.with("").code(0, ops.toArray(new int[0][]));
                x.draw(0, 0, 0, start, 1);
                upper += half(drawn(start)) >= 32768 ? 1 : 0;
                for (int i = 0; i < size; i++) {
                    due("number " + i + " of " + size + " from " + start, x.counted(0, 3, i, 11),
                            half(drawn(start)) % size == i ? 1 : 0);
                }
            }
        }
        CHECK.is("some x were below 0", upper > 20);
    }

    private static void whenThereIsADraw() {
        CHECK.sentence(19, "DRAWN RUNS go by x (an int): at a FORK, and a GET of two or more objects");
        int[][] none = {o(EMPTY), o(EMPTY), o(EMPTY), o(EMPTY), o(GET, 1)};
        int[][] one = {o(NEW, 0, 3), o(PUT, 0), o(PUT, 0), o(EMPTY), o(EMPTY)};
        int[][] gotOne = {o(NEW, 0, 3), o(PUT, 0), o(PUT, 0), o(PUT, 5), o(GET, 1)};
        int[][] two = {o(NEW, 0, 3), o(PUT, 0), o(NEW, 0, 3), o(PUT, 0), o(GET, 1)};
        int[][] emptied = {o(NEW, 0, 3), o(PUT, 0), o(EMPTY), o(PUT, 0), o(GET, 1)};
        int[][] fork = {o(EMPTY), o(EMPTY), o(EMPTY), o(EMPTY), o(FORK, 5)};
        int[][] forkBack = {o(JUMP, 2), o(JUMP, 4), o(FORK, 1), o(JUMP, 4), o(EMPTY)};
        for (int start : STARTS) {
            takenBehind("a GET of none", start, 0, none);
            takenBehind("no GET", start, 0, one);
            takenBehind("a GET of one", start, 0, gotOne);
            takenBehind("a GET of two", start, 1, two);
            takenBehind("a GET of one, since it was empty", start, 0, emptied);
            takenBehind("a FORK to the next place", start, 1, fork);
            takenBehind("a FORK to any place", start, 1, forkBack);
        }
    }

    /** How a fork at place 5 goes shows how many draws there were ahead of it. */
    private static void takenBehind(String what, int start, int draws, int[][] ahead) {
        Run x = Run.with("").code(0, ahead[0], ahead[1], ahead[2], ahead[3], ahead[4], o(FORK, 8), o(NEW, 0, 1),
                o(RETURN), o(NEW, 0, 2));
        x.draw(0, 0, 0, start, 1);
        due(what + " from " + start, x.counted(2, 0, 0, 0), half(times(start, draws + 1)) % 2);
        due(what + " from " + start + ", else", x.counted(1, 0, 0, 0), 1 - half(times(start, draws + 1)) % 2);
    }

    private static void orderOfTheBag() {
        CHECK.sentence(19, "(in the order in which they came into the BAG first since it was empty),");
        int[][] onceMore = {o(PUT, 0), o(PUT, 1), o(PUT, 0), o(PUT, 0)};
        int[][] otherWay = {o(PUT, 1), o(PUT, 0), o(PUT, 1), o(EMPTY), o(PUT, 0), o(PUT, 1)};
        int[][] emptied = {o(PUT, 0), o(PUT, 1), o(EMPTY), o(PUT, 1), o(PUT, 0), o(PUT, 1)};
        int[][] got = {o(PUT, 0), o(PUT, 1), o(GET, 2), o(PUT, 2)};
        for (int start : STARTS) {
            int first = 1 - half(drawn(start)) % 2;
            due("put once more", firstGot(start, onceMore), first);
            due("emptied, then in the same order", firstGot(start, otherWay), first);
            due("emptied, then the other way around", firstGot(start, emptied), 1 - first);
            due("put again when it was got", firstGot(start, got), 1 - half(times(start, 2)) % 2);
        }
    }

    /** Whether a GET behind some ops takes the object of variable 0; 1 or 0. */
    private static int firstGot(int start, int[][] ops) {
        List<int[]> all = new ArrayList<>(List.of(o(NEW, 0, 0), o(CALL, 0, 0), o(NEW, 1, 0), o(CALL, 1, 1)));
        all.addAll(List.of(ops));
        all.addAll(List.of(o(GET, 3), o(CALL, 3, 2)));
        Run x = Run.with("").code(0, all.toArray(new int[0][]));
        x.draw(0, 0, 0, start, 1);
        due("one of both", x.counted(0, 3, 0, 2) + x.counted(0, 3, 1, 2), 1);
        return x.counted(0, 3, 0, 2);
    }

    /** One run of a method, drawn for kind 0 and a rule: so many breaks. */
    private static Run once(String what, int breaks, String rule, int[]... ops) {
        Run x = Run.with(rule).code(0, ops);
        due(what, x.draw(0, 0, 0, 1, 1), breaks);
        return x;
    }

    private static void opsOfDrawnRuns() {
        CHECK.sentence(19, "2 COPY v, w.");
        due("both have it", once("copy", 0, "", o(NEW, 0, 1), o(COPY, 5, 0), o(CALL, 5, 0), o(CALL, 0, 1))
                .counted(1, 3, 0, 1), 1);
        CHECK.sentence(19, "7 IF v, t: to OP t if v has none.");
        Run x = once("if", 0, "", o(IF, 5, 2), o(RETURN), o(NEW, 5, 2), o(IF, 5, 0), o(NEW, 1, 3));
        due("to t, then on", x.counted(2, 0, 0, 0), 1);
        due("to the next", x.counted(3, 0, 0, 0), 1);
        CHECK.sentence(19, "6 JUMP t.");
        due("to place 32", once("jump", 0, "", o(NEW, 0, 1), o(CALL, 0, 0), o(JUMP, 32), o(CALL, 0, 1))
                .counted(1, 2, 0, 0), 1);
        CHECK.sentence(19, "1 FROM v, k, w: likewise, its OWNER being that of w.");
        once("the owner is that of w", 0, "b'", o(NEW, 0, 1), o(NEW, 1, 1), o(FROM, 2, 0, 1), o(CALL, 0, 0),
                o(CALL, 1, 1));
        once("of another none", 1, "a'", o(NEW, 0, 1), o(NEW, 1, 1), o(FROM, 2, 0, 1), o(CALL, 0, 0));
        once("v and w the same", 0, "b'", o(NEW, 3, 1), o(NEW, 0, 1), o(COPY, 1, 0), o(FROM, 0, 0, 0), o(CALL, 1, 1));
        CHECK.sentence(19, "0 NEW v, k: a new object of KIND k (0 .. 3), without an OWNER, comes into v.");
        once("without an owner", 0, "b|a'", o(NEW, 0, 1), o(NEW, 1, 0), o(CALL, 0, 0), o(CALL, 1, 1));
        CHECK.sentence(19,
                "9 GET v: some object of the BAG comes into v (it stays in the BAG); none, if the BAG is empty.");
        due("it stays in the bag", once("get", 0, "", o(NEW, 0, 1), o(PUT, 0), o(GET, 1), o(CALL, 1, 0), o(GET, 2),
                o(CALL, 2, 1)).counted(1, 3, 0, 1), 1);
    }

    /** What has none ends the run at its call, so that nothing is made behind it. */
    private static void noneInDrawnRuns() {
        CHECK.sentence(19, "CALL, and FROM w, of none: the run ENDS there.");
        int[][][] all = {
            {o(EMPTY)},
            {o(NEW, 0, 1), o(DROP, 0)},
            {o(NEW, 0, 1), o(COPY, 0, 3)},
            {o(NEW, 0, 1), o(GET, 0)},
            {o(NEW, 0, 1), o(PUT, 0), o(EMPTY), o(GET, 0)},
            {o(NEW, 0, 1), o(PUT, 5), o(GET, 0)},
            {o(NEW, 1, 1), o(NEW, 2, 1), o(NEW, 3, 1), o(NEW, 4, 1), o(NEW, 5, 1)}};
        for (int i = 0; i < all.length; i++) {
            for (int[] last : new int[][] {o(CALL, 0, 0), o(FROM, 1, 2, 0)}) {
                List<int[]> ops = new ArrayList<>(List.of(all[i]));
                ops.add(last);
                ops.add(o(NEW, 0, 3));
                Run x = once("none " + i, 0, "a", ops.toArray(new int[0][]));
                due("nothing made from none " + i, x.counted(2, 0, 0, 0), 0);
                due("nothing made behind it " + i, x.counted(3, 0, 0, 0), 0);
                due("nothing called " + i, x.counted(1, 1, 0, 0), 0);
            }
        }
        once("it ENDS at no END there", 1, "a", o(NEW, 0, 0), o(CALL, 1, 0), o(CALL, 0, 0));
    }

    /**
     * A method with a call of a, then a loop of some ops, then some blanks, and perhaps one op more. A run that goes
     * around so many times more has 2 + around (times + 1) + blanks ops ahead of that one, or of the return.
     */
    private static Run loop(int around, int blanks, int[] more) {
        List<int[]> ops = new ArrayList<>(List.of(o(NEW, 0, 0), o(CALL, 0, 0)));
        for (int i = 1; i < around; i++) {
            ops.add(o(EMPTY));
        }
        ops.add(o(FORK, 2));
        for (int i = 0; i < blanks; i++) {
            ops.add(o(EMPTY));
        }
        if (more.length > 0) {
            ops.add(more);
        }
        return Run.with("ab", "a").code(0, ops.toArray(new int[0][]));
    }

    private static void twoHundredOps() {
        CHECK.sentence(19, "A run of 200 OPS (a RETURN where there is none is one, too) that has not ENDED is left"
                + " there.");
        ended("a RETURN where there is none is op 199", loop(28, 0, o()), 6, 1);
        ended("it is op 200", loop(28, 1, o()), 6, 1);
        ended("it would be op 201", loop(28, 2, o()), 6, 0);
        ended("a RETURN is op 200", loop(28, 1, o(RETURN)), 6, 1);
        ended("it would be op 201", loop(22, 0, o(RETURN)), 8, 0);
        ended("a call of none is op 200", loop(28, 1, o(CALL, 5, 0)), 6, 1);
        ended("it would be op 201", loop(22, 0, o(CALL, 5, 0)), 8, 0);
        ended("FROM none is op 200", loop(28, 1, o(FROM, 0, 0, 5)), 6, 1);
        ended("it would be op 201", loop(22, 0, o(FROM, 0, 0, 5)), 8, 0);
        Run x = Run.with("ab").code(0, o(NEW, 0, 0), o(CALL, 0, 0), o(JUMP, 2));
        due("one that never ends", x.draw(0, 0, 0, 0, 100), 0);
        due("has its objects counted", x.counted(0, 0, 0, 0), 100);
        due("and its first calls", x.counted(0, 1, 0, 0), 100);
        due("but no last ones", x.counted(0, 2, 0, 0), 0);
    }

    /** A run that ends does so with the row a, which breaks ab, and a is the last call then. */
    private static void ended(String what, Run x, int times, int want) {
        due(what + ", breaks", x.draw(0, 0, 0, startFor(times), 1), want);
        due(what + ", last", x.counted(0, 2, 0, 0), want);
        due(what + ", first", x.counted(0, 1, 0, 0), 1);
        due(what + ", objects", x.forget(), 1);
    }

    private static void lastOpCounts() {
        CHECK.sentence(19, "A run of 200 OPS");
        Run x = loop(28, 1, o(CALL, 0, 1));
        due("a BREAK by op 200", x.draw(0, 0, 1, startFor(6), 1), 1);
        due("it is done", x.counted(0, 3, 0, 1), 1);
        due("though the run has not ended", x.counted(0, 2, 1, 0) + x.counted(0, 2, 0, 0), 0);
        Run y = loop(22, 0, o(CALL, 0, 1));
        due("no BREAK by op 201", y.draw(0, 0, 1, startFor(8), 1), 0);
        due("it is not done", y.counted(0, 3, 0, 1), 0);
        Run z = loop(28, 1, o(NEW, 1, 2));
        due("no BREAK of what op 200 makes", z.draw(0, 2, 0, startFor(6), 1), 0);
        due("an object made by op 200", z.counted(2, 0, 0, 0), 1);
        // 31 objects in each 32 ops: 6 times around, and 8 more.
        int[][] ops = new int[32][];
        for (int i = 0; i < 31; i++) {
            ops[i] = o(NEW, i % 6, 0);
        }
        ops[31] = o(JUMP, 0);
        Run many = Run.with("a").code(0, ops);
        due("none has a BREAK", many.draw(0, 0, 0, 0, 1), 0);
        due("as many objects as there can be", many.counted(0, 0, 0, 0), 194);
    }

    private static void leftRunLeavesX() {
        CHECK.sentence(19, "So many DRAWN RUNS (1 .. 100) of a METHOD, the first from x on, each further one from the x"
                + " that the one before left:");
        // One draw, then one in each two ops up to op 200: 100 draws in a run that is left.
        for (int start : STARTS) {
            Run x = Run.with("").code(0, o(FORK, 3), o(NEW, 0, 0), o(JUMP, 4), o(NEW, 0, 1), o(FORK, 5), o(JUMP, 4));
            x.draw(0, 0, 0, start, 20);
            int odd = 0;
            for (int run = 0; run < 20; run++) {
                odd += half(times(start, 100 * run + 1)) % 2;
            }
            due("left runs from " + start, x.counted(1, 0, 0, 0), odd);
            due("the others from " + start, x.counted(0, 0, 0, 0), 20 - odd);
        }
    }

    private static void soManyRuns() {
        CHECK.sentence(19, "So many DRAWN RUNS (1 .. 100) of a METHOD,");
        Run x = Run.with("a").code(3, o(NEW, 0, 3));
        due("one", x.draw(3, 3, 0, 5, 1), 1);
        due("so many objects", x.forget(), 1);
        due("a hundred", x.draw(3, 3, 0, 5, 100), 100);
        due("so many objects", x.forget(), 100);
        due("none", x.draw(3, 3, 0, 5, 0), BAD);
        due("a hundred and one", x.draw(3, 3, 0, 5, 101), BAD);
        due("-1", x.draw(3, 3, 0, 5, -1), BAD);
        due("none was drawn", x.forget(), 0);
        due("a method without ops", x.draw(0, 0, 0, 5, 100), 0);
        due("makes nothing", x.forget(), 0);
    }

    private static void fromTheXBefore() {
        CHECK.sentence(19, "the first from x on, each further one from the x that the one before left:");
        for (int start : STARTS) {
            Run x = Run.with("").code(0, o(FORK, 3), o(NEW, 0, 0), o(RETURN), o(NEW, 0, 1));
            x.draw(0, 0, 0, start, 100);
            int odd = 0;
            for (int run = 1; run <= 100; run++) {
                odd += half(times(start, run)) % 2;
            }
            due("a hundred from " + start, x.counted(1, 0, 0, 0), odd);
            x.forget();
            x.draw(0, 0, 0, start, 1);
            x.draw(0, 0, 0, start, 1);
            due("two draws do not go on from one another", x.counted(1, 0, 0, 0), 2 * (half(drawn(start)) % 2));
        }
        // What no run draws is left as it was, and a run begins with nothing of the one before.
        Run y = Run.with("").code(0, o(GET, 0), o(FORK, 4), o(NEW, 1, 1), o(RETURN), o(NEW, 0, 0), o(PUT, 0));
        y.draw(0, 0, 0, 7, 50);
        due("all runs", y.forget(), 50);
        Run z = Run.with("a").code(0, o(CALL, 0, 0), o(NEW, 0, 0), o(PUT, 0)).code(1, o(GET, 0), o(CALL, 0, 0));
        due("no variable is kept", z.draw(0, 0, 0, 7, 10), 0);
        due("no object at all", z.forget(), 0);
        z.wipe(0);
        z.code(0, o(GET, 0), o(CALL, 0, 0));
        z.wipe(1);
        z.code(1, o(NEW, 0, 0), o(PUT, 0));
        z.draw(1, 0, 0, 7, 10);
        z.draw(0, 0, 0, 7, 10);
        due("no bag is kept", z.counted(0, 1, 0, 0), 0);
    }

    private static void eachOnce() {
        CHECK.sentence(19, "how many objects of a KIND had a BREAK of a MACHINE in them (each once).");
        Run x = Run.with("a", "", "b'*").code(0, o(NEW, 0, 0), o(CALL, 0, 1), o(CALL, 0, 1), o(CALL, 0, 0));
        due("once, by its first wrong call", x.draw(0, 0, 0, 3, 1), 1);
        due("in each run", x.draw(0, 0, 0, 3, 100), 100);
        due("none of another kind", x.draw(0, 1, 0, 3, 100), 0);
        int[][] ops = new int[32][];
        for (int i = 0; i < 32; i++) {
            ops[i] = o(NEW, 0, 2);
        }
        x.code(1, ops);
        due("all that were made", x.draw(1, 2, 0, 3, 100), 3200);
        due("at an END none", x.draw(1, 2, 1, 3, 100), 0);
        // One call of an owner breaks two, and the third is made behind it.
        x.code(2, o(NEW, 0, 1), o(FROM, 1, 0, 0), o(FROM, 2, 0, 0), o(CALL, 0, 0), o(FROM, 3, 0, 0), o(CALL, 0, 1));
        due("two by one op", x.draw(2, 0, 2, 3, 1), 2);
        due("two in each run", x.draw(2, 0, 2, 3, 100), 200);
        x.code(3, o(NEW, 0, 0), o(CALL, 0, 0), o(NEW, 1, 0), o(CALL, 0, 0));
        due("one by a call, one by the end", x.draw(3, 0, 0, 3, 1), 2);
    }

    private static void ownersInDrawnRuns() {
        CHECK.sentence(19, "For one that does not, the OWNER's calls are no EVENTS.");
        Run x = Run.with("b", "b|l'", "b|a'b").code(0, o(NEW, 0, 1), o(FROM, 1, 0, 0), o(CALL, 0, 0), o(CALL, 1, 1));
        due("not seen", x.draw(0, 0, 0, 3, 1), 0);
        due("seen, and not in the rule there", x.draw(0, 0, 1, 3, 1), 1);
        due("seen, and in the rule", x.draw(0, 0, 2, 3, 1), 0);
    }

    private static void badDraw() {
        CHECK.sentence(19, "BAD.");
        Run x = Run.with("a").code(3, o(NEW, 0, 0));
        due("method 4", x.draw(4, 0, 0, 0, 1), BAD);
        due("kind 4", x.draw(3, 4, 0, 0, 1), BAD);
        due("machine 1", x.draw(3, 0, 1, 0, 1), BAD);
        for (int wrong : OUTSIDE) {
            due("method " + wrong, x.draw(wrong, 0, 0, 0, 1), BAD);
            due("kind " + wrong, x.draw(3, wrong, 0, 0, 1), BAD);
            due("machine " + wrong, x.draw(3, 0, wrong, 0, 1), BAD);
            due("runs " + wrong, x.draw(3, 0, 0, 0, wrong), BAD);
        }
        due("nothing was counted", x.forget(), 0);
        for (int start : STARTS) {
            due("any x: " + start, x.draw(3, 3, 0, start, 1), 0);
        }
        for (int i = 1; i < 12; i++) {
            x.rule("a");
        }
        due("the last machine", x.draw(3, 0, 11, 0, 1), 1);
        due("machine 12", x.draw(3, 0, 12, 0, 1), BAD);
        due("no machine", new Run().draw(0, 0, 0, 0, 1), BAD);
    }

    private static void countedThings() {
        CHECK.sentence(20,
                "COUNTED are, by KINDS, for all DRAWN RUNS: objects made; how often MEMBER b was called on an"
                + " object as the next one behind a");
        Run x = Run.with("a", "(a|b')*").code(0, o(NEW, 0, 0), o(NEW, 1, 3), o(CALL, 0, 0), o(CALL, 1, 11),
                o(CALL, 0, 1),
                o(CALL, 1, 11), o(CALL, 0, 0), o(FROM, 2, 3, 0), o(CALL, 0, 11), o(CALL, 2, 0)).code(1, o(NEW, 0, 0));
        due("whatever kind and machine it is drawn for", x.draw(0, 2, 1, 9, 3), 0);
        x.draw(0, 3, 0, 9, 4);
        x.draw(1, 0, 0, 9, 100);
        int[] objects = {107, 0, 0, 14};
        for (int kind = 0; kind < 4; kind++) {
            due("objects of " + kind, x.counted(kind, 0, 0, 0), objects[kind]);
        }
        due("b behind a, with a call of another between", x.counted(0, 3, 0, 1), 7);
        due("a behind b", x.counted(0, 3, 1, 0), 7);
        due("l behind a", x.counted(0, 3, 0, 11), 7);
        due("l behind l", x.counted(3, 3, 11, 11), 7);
        due("a behind a", x.counted(0, 3, 0, 0), 0);
        due("the owner's calls are not its own", x.counted(3, 3, 11, 0), 0);
        due("none of one call only", x.counted(3, 3, 0, 0), 0);
        // An object's next call may be in another round, and one of the next run is none.
        Run y = Run.with("a").code(0, o(NEW, 0, 1), o(CALL, 0, 2), o(JUMP, 1));
        y.draw(0, 0, 0, 0, 2);
        // Op 1 is NEW; CALL are ops 2, 4, .. 200.
        due("behind itself", y.counted(1, 3, 2, 2), 2 * 99);
        due("first in each run", y.counted(1, 1, 2, 0), 2);
    }

    private static void firstsAndLasts() {
        CHECK.sentence(20, "(FIRST: the first one; LAST: the last one, of runs that ENDED).");
        Run x = Run.with("a").code(0, o(NEW, 0, 0), o(CALL, 0, 0), o(CALL, 0, 11), o(NEW, 1, 0), o(CALL, 1, 5),
                o(NEW, 2, 0), o(DROP, 0));
        x.draw(0, 1, 0, 0, 10);
        due("first of two", x.counted(0, 1, 0, 0), 10);
        due("last of two", x.counted(0, 2, 11, 0), 10);
        due("not first", x.counted(0, 1, 11, 0), 0);
        due("not last", x.counted(0, 2, 0, 0), 0);
        due("first of one", x.counted(0, 1, 5, 0), 10);
        due("last of one", x.counted(0, 2, 5, 0), 10);
        int firsts = 0;
        int lasts = 0;
        for (int member = 0; member < 12; member++) {
            firsts += x.counted(0, 1, member, 0);
            lasts += x.counted(0, 2, member, 0);
        }
        due("one that was not called has no first", firsts, 20);
        due("and no last", lasts, 20);
        x.code(1, o(NEW, 0, 2), o(CALL, 0, 4), o(JUMP, 2)).code(2, o(NEW, 0, 2), o(CALL, 0, 4), o(CALL, 1, 0));
        x.draw(1, 0, 0, 0, 10);
        due("of a left run the first", x.counted(2, 1, 4, 0), 10);
        due("and no last", x.counted(2, 2, 4, 0), 0);
        x.draw(2, 0, 0, 0, 1);
        due("of one that a call of none ended the last, too", x.counted(2, 2, 4, 0), 1);
        due("that call is none", x.counted(0, 1, 0, 0), 10);
    }

    private static void askedForCounts() {
        CHECK.sentence(20,
                "COUNTED of a KIND: objects (what = 0; a, b do not matter), FIRST of a (1; b does not), LAST of"
                + " a (2; b does not), b next behind a (3).");
        Run x = Run.with("a").code(0, o(NEW, 0, 3), o(CALL, 0, 0), o(CALL, 0, 11));
        x.draw(0, 0, 0, 0, 5);
        for (int any : new int[] {-1, 0, 11, 12, LEAST, MOST}) {
            due("objects", x.counted(3, 0, any, -any), 5);
            due("first", x.counted(3, 1, 0, any), 5);
            due("last", x.counted(3, 2, 11, any), 5);
        }
        due("next", x.counted(3, 3, 0, 11), 5);
        due("not the other way around", x.counted(3, 3, 11, 0), 0);
        due("the last of both", x.counted(3, 3, 11, 11), 0);
    }

    private static void badCounted() {
        CHECK.sentence(20, "BAD.");
        Run x = Run.with("a").code(0, o(NEW, 0, 3));
        x.draw(0, 0, 0, 0, 5);
        due("kind 4", x.counted(4, 0, 0, 0), BAD);
        due("what 4", x.counted(0, 4, 0, 0), BAD);
        for (int wrong : OUTSIDE) {
            due("kind " + wrong, x.counted(wrong, 0, 0, 0), BAD);
            due("what " + wrong, x.counted(0, wrong, 0, 0), BAD);
        }
        for (int wrong : new int[] {12, 13, -1, LEAST, MOST}) {
            for (int what = 1; what <= 3; what++) {
                due("a is " + wrong + " of " + what, x.counted(3, what, wrong, 0), BAD);
            }
            due("b is " + wrong, x.counted(3, 3, 0, wrong), BAD);
        }
        for (int what = 1; what <= 3; what++) {
            due("the last member", x.counted(3, what, 11, 11), 0);
        }
        due("still counted", x.forget(), 5);
    }

    private static void forgotten() {
        CHECK.sentence(21, "Nothing is COUNTED any more: how many objects were.");
        Run x = Run.with("a").code(0, o(NEW, 0, 0), o(NEW, 1, 1), o(NEW, 2, 2), o(NEW, 3, 3), o(CALL, 0, 0),
                o(CALL, 0, 11),
                o(CALL, 3, 11), o(CALL, 3, 0));
        due("none", x.forget(), 0);
        x.draw(0, 0, 0, 0, 100);
        due("of all kinds", x.forget(), 400);
        due("none any more", x.forget(), 0);
        for (int kind = 0; kind < 4; kind++) {
            due("objects", x.counted(kind, 0, 0, 0), 0);
            for (int a = 0; a < 12; a += 11) {
                due("first", x.counted(kind, 1, a, 0), 0);
                due("last", x.counted(kind, 2, a, 0), 0);
                due("next", x.counted(kind, 3, a, 11 - a), 0);
            }
        }
        x.draw(0, 0, 0, 0, 1);
        due("counted anew", x.counted(3, 3, 11, 0), 1);
        due("the ops stay", x.told(2), 8);
        due("the machines stay", x.told(1), 1);
        due("four", x.forget(), 4);
    }

    private static void told() {
        CHECK.sentence(22, "0 bytes of THE TEXT, 1 MACHINES, 2 .. 5 OPS of METHODS 0 .. 3, 6 .. 9 STEPS of CLASSES"
                + " 0 .. 3.");
        Run x = new Run();
        for (int what = 0; what <= 9; what++) {
            due("at first " + what, x.told(what), 0);
        }
        for (int i = 0; i < 12; i++) {
            x.read();
        }
        x.text("a".repeat(128));
        for (int i = 0; i < 32; i++) {
            x.op(0, EMPTY, 0, 0, 0);
            x.op(3, EMPTY, 0, 0, 0);
        }
        for (int i = 0; i < 72; i++) {
            x.step(0, i % 12, 2, 0, 0);
            x.step(3, i % 12, 2, 0, 0);
        }
        x.op(1, EMPTY, 0, 0, 0);
        x.step(2, 0, 2, 0, 0);
        int[] want = {128, 12, 32, 1, 0, 32, 72, 0, 1, 72};
        for (int what = 0; what <= 9; what++) {
            due("the most " + what, x.told(what), want[what]);
        }
        due("no byte more", x.feed(0x61616161, 0x61616161, 0x61616161, 0x61616161), FULL);
        due("no op more", x.op(3, EMPTY, 0, 0, 0), FULL);
        due("no step more", x.step(3, 11, 2, 0, 0), FULL);
        due("no machine more", x.infer(0), FULL);
        for (int what = 0; what <= 9; what++) {
            due("the most still " + what, x.told(what), want[what]);
        }
    }

    private static void badTold() {
        CHECK.sentence(22, "BAD.");
        Run x = new Run();
        due("the last", x.told(9), 0);
        for (int what : new int[] {10, 11, -1, -2, LEAST, LEAST + 1, LEAST + 5, LEAST + 6, MOST, MOST - 1}) {
            due("what " + what, x.told(what), BAD);
        }
    }
}
