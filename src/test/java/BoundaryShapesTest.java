import java.util.ArrayList;
import java.util.List;

/** Promises 16 to 18, ways and shapes: a test of its own for each sentence with a boundary case. */
public final class BoundaryShapesTest {
    private static final int BAD = Support.BAD, NONE = Support.NONE;
    private static final int NEW = Support.NEW, FROM = Support.FROM, COPY = Support.COPY, DROP = Support.DROP;
    private static final int CALL = Support.CALL, FORK = Support.FORK, JUMP = Support.JUMP, IF = Support.IF;
    private static final int PUT = Support.PUT, GET = Support.GET, EMPTY = Support.EMPTY, RETURN = Support.RETURN;
    private static final String BLIND = ".*", SEEING = "(.|a'|b')*";
    private static final Support CHECK = new Support("BoundaryShapesTest");

    public static void main(String[] args) {
        waysBeginAndEnd();
        theWay();
        longWay();
        whatThereIs();
        withoutChosen();
        chosen();
        likelyOwner();
        sameShapes();
        behindBreaks();
        mostShapes();
        howManyShapes();
        placesOfTheWay();
        nothingOfTheOneBefore();
        noPlace();
        CHECK.finish();
    }

    private static void due(String what, long got, long want) {
        CHECK.due(what, got, want);
    }

    private static int[] o(int... numbers) {
        return numbers;
    }

    private static void way(String what, String way, String rule, int[]... ops) {
        Run x = Run.with(rule).code(0, ops);
        due(what, x.judge(0, 0, 0), 0);
        CHECK.same(what, x.places(), way);
    }

    /** How many shapes a method has for kind 0. */
    private static void shapes(String what, int want, String rule, int[]... ops) {
        Run x = Run.with(rule).code(0, ops);
        CHECK.is(what + ", known", x.judge(0, 0, 0) >= 0);
        due(what, x.shapes(), want);
    }

    private static void waysBeginAndEnd() {
        CHECK.sentence(18, "WAYS are the rows of PLACES of runs from OP 0 up to the OP with a BREAK.");
        way("the shortest that there can be", "0 1", "a", o(NEW, 0, 0));
        way("with the op that breaks", "0 1 2 3", "aa", o(NEW, 0, 0), o(CALL, 0, 0), o(CALL, 0, 0), o(CALL, 0, 0));
        way("with a return where there is no op", "0 1 9", "a", o(NEW, 0, 0), o(JUMP, 9));
        way("a place as often as it is come to", "0 1 2 1 2 1 2 1", "aaa", o(NEW, 0, 0), o(CALL, 0, 0), o(JUMP, 1));
    }

    private static void theWay() {
        CHECK.sentence(18, "THE WAY: one of the fewest OPS, of these the one with the least PLACE where two first"
                + " differ.");
        way("fewer ops by greater places", "0 1 5", "", o(NEW, 0, 0), o(FORK, 5), o(EMPTY), o(EMPTY), o(CALL, 0, 0),
                o(CALL, 0, 0));
        way("as many: by the least place", "0 1 2 3 6", "", o(NEW, 0, 0), o(FORK, 4), o(EMPTY), o(JUMP, 6), o(EMPTY),
                o(JUMP, 6), o(CALL, 0, 0));
        way("where they first differ, not later", "0 1 2 9", "a?", o(FORK, 5), o(NEW, 0, 0), o(JUMP, 9), o(RETURN),
                o(RETURN), o(NEW, 0, 0), o(JUMP, 7), o(CALL, 0, 1), o(RETURN), o(CALL, 0, 1));
        way("by going back", "0 2 3 1", "", o(JUMP, 2), o(CALL, 0, 0), o(NEW, 0, 0), o(JUMP, 1));
        way("not by a lesser place that does not lead on", "0 1 4 5", "", o(NEW, 0, 0), o(FORK, 4), o(EMPTY), o(RETURN),
                o(EMPTY), o(CALL, 0, 0));
        way("not up to an op that does not break", "0 1 4 5", "", o(NEW, 0, 0), o(JUMP, 4), o(EMPTY), o(RETURN),
                o(FORK, 2),
                o(CALL, 0, 0));
        way("a lesser place that is come to later", "0 1 5 2 3 9", "", o(NEW, 0, 0), o(JUMP, 5), o(EMPTY), o(JUMP, 9),
                o(RETURN), o(FORK, 2), o(EMPTY), o(JUMP, 9), o(RETURN), o(CALL, 0, 0));
        // By 2 and 3 the run comes to 6 without an object in variable 0, so that it does not go on to 7.
        way("of one run, not of two", "0 1 2 3 6 9", "a", o(NEW, 1, 0), o(FORK, 4), o(DROP, 0), o(JUMP, 6),
                o(NEW, 0, 1),
                o(JUMP, 6), o(IF, 0, 9), o(CALL, 1, 1), o(RETURN), o(CALL, 1, 2));
        way("of two objects the one that breaks first", "0 1 2", "a", o(NEW, 0, 0), o(NEW, 1, 0), o(CALL, 1, 1),
                o(CALL, 0, 1));
    }

    private static void longWay() {
        CHECK.sentence(18, "PLACE i of THE WAY of the latest judge(), if that answered 0; i = -1: how many.");
        int[][] ops = new int[32][];
        for (int i = 2; i < 31; i++) {
            ops[i] = o(EMPTY);
        }
        ops[0] = o(NEW, 0, 0);
        ops[1] = o(CALL, 0, 0);
        ops[31] = o(JUMP, 1);
        // 23 times around in 31 ops, and the 24th a is one too many.
        Run x = Run.with("a".repeat(23)).code(0, ops);
        due("broken", x.judge(0, 0, 0), 0);
        due("how many", x.way(-1), 1 + 23 * 31 + 1);
        due("the first", x.way(0), 0);
        for (int i = 1; i <= 23; i++) {
            due("around " + i, x.way(i), i);
            due("the call of round " + i, x.way(31 * (i - 1) + 1), 1);
            due("the jump of round " + i, x.way(31 * i), 31);
        }
        due("the last but one", x.way(713), 31);
        due("the last", x.way(714), 1);
        due("behind the last", x.way(715), NONE);
        due("one for each", x.shapes(), 32 + 23 * 31 + 1);
    }

    private static void whatThereIs() {
        CHECK.sentence(17, "SHAPES of a METHOD, a KIND, a MACHINE: what there is ahead of an OP in some run.");
        shapes("ahead of the return at place 0", 1, BLIND);
        shapes("ahead of each op, and of the return", 4, BLIND, o(EMPTY), o(EMPTY), o(EMPTY));
        shapes("not where no run comes to", 2, BLIND, o(JUMP, 3), o(NEW, 0, 0), o(CALL, 0, 0));
        shapes("ahead of op 32", 2, BLIND, o(JUMP, 32));
        shapes("once, however often", 2, BLIND, o(EMPTY), o(JUMP, 0));
        Run x = Run.with(BLIND, "a").code(0, o(NEW, 0, 0)).code(1, o(NEW, 0, 1));
        x.judge(0, 0, 0);
        due("of a method and a kind", x.shapes(), 3);
        x.judge(0, 1, 0);
        due("of another kind", x.shapes(), 2);
        x.judge(1, 0, 0);
        due("of another method", x.shapes(), 2);
        x.judge(2, 0, 0);
        due("of a method without ops", x.shapes(), 1);
    }

    private static void withoutChosen() {
        CHECK.sentence(17, "One without a CHOSEN object: the PLACE, which variables have objects, whether the BAG has"
                + " some.");
        shapes("which variables", 4, BLIND, o(FORK, 2), o(NEW, 0, 1));
        shapes("each variable", 9, BLIND, o(FORK, 4), o(FORK, 5), o(NEW, 0, 1), o(RETURN), o(NEW, 4, 1), o(NEW, 5, 1));
        shapes("whether the bag has some", 7, BLIND, o(FORK, 3), o(NEW, 0, 1), o(PUT, 0), o(DROP, 0));
        // Not how many there are, nor of which kind, nor who has whom.
        shapes("the bag has one or two", 10, BLIND, o(NEW, 0, 1), o(PUT, 0), o(FORK, 5), o(NEW, 0, 2), o(PUT, 0),
                o(EMPTY), o(NEW, 1, 3), o(COPY, 2, 0), o(DROP, 1));
    }

    private static void chosen() {
        CHECK.sentence(17, "For each time at which an object of the KIND is made, it may be CHOSEN: then its STATE (as"
                + " long as it is not BROKEN), which variables have it, whether the BAG does; and for all other objects"
                + " together likewise which variables, whether the BAG has some.");
        shapes("chosen or not", 3, BLIND, o(NEW, 0, 0));
        shapes("made from one, too", 4, BLIND, o(NEW, 0, 1), o(FROM, 1, 0, 0));
        // Ahead of place 0: nothing; another; chosen; chosen and lost while another came. Then three each.
        shapes("each time", 10, BLIND, o(NEW, 0, 0), o(FORK, 0));
        shapes("its state", 8, "a?", o(NEW, 0, 0), o(FORK, 3), o(CALL, 0, 0));
        shapes("as long as it is not broken", 7, "", o(NEW, 0, 0), o(FORK, 3), o(CALL, 0, 0));
        shapes("which variables have it", 17, BLIND, o(NEW, 0, 0), o(FORK, 3), o(COPY, 1, 0), o(FORK, 5), o(EMPTY));
        shapes("whether the bag does", 11, BLIND, o(NEW, 0, 0), o(FORK, 3), o(PUT, 0), o(EMPTY));
        shapes("both may be in the bag", 17, BLIND, o(NEW, 0, 0), o(NEW, 1, 0), o(PUT, 0), o(PUT, 1), o(GET, 2));
        shapes("just the other", 15, BLIND, o(NEW, 0, 0), o(NEW, 1, 1), o(PUT, 0), o(PUT, 1), o(EMPTY), o(PUT, 1),
                o(GET, 2));
    }

    private static void likelyOwner() {
        CHECK.sentence(17,
                "When the MACHINE SEES OWNERS: also, for any object that is made without one being CHOSEN yet"
                + " (of any KIND), it may be the LIKELY OWNER (one at most): which variables have it, whether the BAG"
                + " does, apart from the others; then only objects made FROM it can be CHOSEN; one that is CHOSEN while"
                + " there is no LIKELY OWNER is made by NEW (it has no OWNER).");
        shapes("any kind", 3, SEEING, o(NEW, 0, 3));
        shapes("the kind that is judged", 4, SEEING, o(NEW, 0, 0));
        shapes("none where owners are not seen", 2, BLIND, o(NEW, 0, 3));
        shapes("one at most", 6, SEEING, o(NEW, 0, 1), o(NEW, 1, 1));
        shapes("none when one is chosen", 8, SEEING, o(NEW, 0, 0), o(NEW, 1, 1));
        shapes("from it", 7, SEEING, o(NEW, 0, 1), o(FROM, 1, 0, 0));
        shapes("not made new, when there is one", 7, SEEING, o(NEW, 0, 1), o(NEW, 1, 0));
        shapes("not from another", 11, SEEING, o(NEW, 0, 1), o(NEW, 1, 1), o(FROM, 2, 0, 0));
        shapes("which variables have it", 13, SEEING, o(NEW, 0, 1), o(FORK, 3), o(COPY, 1, 0), o(DROP, 2));
        shapes("whether the bag does", 15, SEEING, o(NEW, 0, 1), o(FORK, 3), o(PUT, 0), o(DROP, 0), o(EMPTY));
        shapes("an object made from what was made from it", 11, SEEING, o(NEW, 0, 1), o(FROM, 1, 1, 0),
                o(FROM, 2, 0, 1));
    }

    private static void sameShapes() {
        CHECK.sentence(17,
                "Two SHAPES are the same if all this is, also whether there is one CHOSEN, and a LIKELY OWNER"
                + " (variables or not).");
        shapes("one chosen that no variable has", 5, BLIND, o(NEW, 0, 0), o(DROP, 0));
        shapes("and a likely owner", 7, SEEING, o(NEW, 0, 0), o(DROP, 0));
        shapes("one chosen, and a likely owner that no variable has", 14, SEEING, o(NEW, 0, 1), o(FROM, 1, 0, 0),
                o(DROP, 0), o(DROP, 1), o(RETURN));
        shapes("the same by two ways", 5, BLIND, o(FORK, 2), o(JUMP, 3), o(EMPTY), o(EMPTY));
        shapes("the bag emptied by two ways", 13, BLIND, o(NEW, 0, 0), o(FORK, 3), o(PUT, 0), o(EMPTY), o(DROP, 0));
    }

    private static void behindBreaks() {
        CHECK.sentence(17, "Behind a BREAK for the CHOSEN one, and when a run has ENDED, there is none.");
        shapes("the others go on", 5, "b", o(NEW, 0, 0), o(CALL, 0, 0), o(EMPTY));
        shapes("all go on where it is kept", 7, "a", o(NEW, 0, 0), o(CALL, 0, 0), o(EMPTY));
        shapes("broken by its owner", 10, "b'*", o(NEW, 0, 1), o(FROM, 1, 0, 0), o(CALL, 0, 0));
        shapes("ended", 1, BLIND, o(RETURN), o(EMPTY));
        shapes("ended by a call of none", 1, BLIND, o(CALL, 0, 0), o(EMPTY));
        shapes("ended by FROM none", 1, BLIND, o(FROM, 0, 0, 0), o(EMPTY));
        shapes("ended where there is no op", 2, BLIND, o(EMPTY));
    }

    /**
     * Six times an object or none: behind i of them there are 2^i shapes without one chosen and i 2^(i-1) with one.
     * That is 384 ahead of the 12 ops, 256 ahead of each further one (and of the return), 8 and 48 ahead of an EMPTY
     * behind two and four of them, and 1 ahead of each of those that stand first.
     */
    private static int[][] manyShapes(int first) {
        List<int[]> all = new ArrayList<>();
        for (int i = 0; i < first; i++) {
            all.add(o(EMPTY));
        }
        for (int variable = 0; variable < 6; variable++) {
            if (variable == 2 || variable == 4) {
                all.add(o(EMPTY));
            }
            all.add(o(FORK, all.size() + 2));
            all.add(o(NEW, variable, 0));
        }
        for (int i = 0; i < 9; i++) {
            all.add(o(EMPTY));
        }
        return all.toArray(new int[0][]);
    }

    private static void mostShapes() {
        CHECK.sentence(16, "NONE: there are more than 3000 SHAPES (then nothing is known).");
        Run x = Run.with("a", "").code(0, manyShapes(0)).code(1, manyShapes(1)).code(2, manyShapes(8));
        due("3000 are not too many", x.judge(0, 0, 0), 0);
        due("3000", x.shapes(), 3000);
        due("a way", x.way(-1), 19);
        due("3000 that are kept", x.judge(0, 0, 1), 1);
        due("3000 again", x.shapes(), 3000);
        due("3001", x.judge(1, 0, 0), NONE);
        due("so it is told", x.shapes(), 3001);
        due("no way is known", x.way(-1), NONE);
        due("nor a place", x.way(0), NONE);
        due("3001 that would be kept", x.judge(1, 0, 1), NONE);
        due("more than 3001", x.judge(2, 0, 0), NONE);
        due("are told as 3001", x.shapes(), 3001);
        due("for another kind there are few", x.judge(1, 1, 0), 1);
        CHECK.is("so few", x.shapes() < 3000);
        // A break at the third op is not known either.
        List<int[]> ops = new ArrayList<>(List.of(o(NEW, 0, 0), o(FORK, 3), o(RETURN)));
        Run near = Run.with("a").code(0, ops.toArray(new int[0][]));
        due("a near break", near.judge(0, 0, 0), 0);
        CHECK.same("its way", near.places(), "0 1 2");
        for (int i = 0; i < 12; i++) {
            ops.add(o(FORK, ops.size() + 2));
            ops.add(i % 2 == 0 ? o(NEW, i / 2, 0) : o(PUT, i / 2));
        }
        ops.add(o(JUMP, 3));
        near.wipe(0);
        near.code(0, ops.toArray(new int[0][]));
        due("with too many shapes behind it", near.judge(0, 0, 0), NONE);
        due("3001", near.shapes(), 3001);
        due("no way", near.way(-1), NONE);
        due("nor a place of it", near.way(0), NONE);
    }

    private static void howManyShapes() {
        CHECK.sentence(17, "Of the latest judge(): how many SHAPES there were (3001: too many); 0 before.");
        Run x = new Run();
        due("before", x.shapes(), 0);
        due("BAD", x.judge(0, 0, 0), BAD);
        due("still before", x.shapes(), 0);
        x.rule("a");
        x.draw(0, 0, 0, 1, 1);
        due("a draw is no judge", x.shapes(), 0);
        x.code(0, o(NEW, 0, 0)).code(1, manyShapes(8));
        x.judge(0, 0, 0);
        due("three", x.shapes(), 3);
        due("BAD", x.judge(0, 0, 1), BAD);
        due("of the one before", x.shapes(), 3);
        due("too many", x.judge(1, 0, 0), NONE);
        due("3001", x.shapes(), 3001);
        due("BAD", x.judge(4, 0, 0), BAD);
        due("of that", x.shapes(), 3001);
        x.judge(2, 0, 0);
        due("one", x.shapes(), 1);
        x.wipe(0);
        x.wipe(1);
        due("ops that go do not change it", x.shapes(), 1);
    }

    private static void placesOfTheWay() {
        CHECK.sentence(18, "PLACE i of THE WAY of the latest judge(), if that answered 0;");
        Run x = Run.with("a", "").code(0, o(NEW, 0, 0), o(JUMP, 32)).code(1, o(NEW, 0, 0), o(CALL, 0, 0), o(EMPTY))
                .code(2, manyShapes(8));
        x.judge(0, 0, 0);
        CHECK.same("the way", x.places(), "0 1 32");
        due("BAD", x.judge(0, 4, 0), BAD);
        CHECK.same("of the one before", x.places(), "0 1 32");
        x.wipe(0);
        x.code(0, o(EMPTY));
        x.draw(0, 0, 0, 5, 3);
        CHECK.same("ops that change do not change it", x.places(), "0 1 32");
        due("kept", x.judge(1, 0, 0), 1);
        due("none", x.way(-1), NONE);
        due("no place", x.way(0), NONE);
        due("broken", x.judge(1, 0, 1), 0);
        CHECK.same("another way", x.places(), "0 1");
        due("too many", x.judge(2, 0, 0), NONE);
        due("none then", x.way(-1), NONE);
        due("no place then", x.way(0), NONE);
        due("BAD behind it", x.judge(-1, 0, 0), BAD);
        due("none still", x.way(-1), NONE);
    }

    private static void nothingOfTheOneBefore() {
        CHECK.sentence(18, "of the latest judge(),");
        // In the first method a run goes from place 2 to the call, in the second one only from place 4.
        Run x = Run.with("").code(0, o(NEW, 0, 0), o(FORK, 4), o(FORK, 5), o(RETURN), o(EMPTY), o(CALL, 0, 0))
                .code(1, o(NEW, 0, 0), o(FORK, 4), o(EMPTY), o(RETURN), o(EMPTY), o(CALL, 0, 0));
        due("the first", x.judge(0, 0, 0), 0);
        CHECK.same("its way", x.places(), "0 1 2 5");
        due("the second", x.judge(1, 0, 0), 0);
        CHECK.same("its own way", x.places(), "0 1 4 5");
        due("its own shapes", x.shapes(), 12);
        due("the first again", x.judge(0, 0, 0), 0);
        CHECK.same("its way again", x.places(), "0 1 2 5");
    }

    private static void noPlace() {
        CHECK.sentence(18, "NONE: none such.");
        Run x = Run.with("a").code(0, o(NEW, 0, 0));
        for (int i : new int[] {-2, -1, 0, 1, Integer.MIN_VALUE, Integer.MAX_VALUE}) {
            due("before: " + i, x.way(i), NONE);
        }
        x.judge(0, 0, 0);
        due("how many", x.way(-1), 2);
        due("the first", x.way(0), 0);
        due("the last", x.way(1), 1);
        for (int i : new int[] {2, 3, 2999, 3000, 3001, -2, Integer.MIN_VALUE, Integer.MAX_VALUE}) {
            due("none such: " + i, x.way(i), NONE);
        }
        x.judge(0, 1, 0);
        for (int i : new int[] {-2, -1, 0, 1, Integer.MIN_VALUE, Integer.MAX_VALUE}) {
            due("kept: " + i, x.way(i), NONE);
        }
    }
}
