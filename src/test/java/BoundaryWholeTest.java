import java.util.ArrayList;
import java.util.List;

/** What the document says ahead of its terms (promise 0), and that objects do not disturb one another. */
public final class BoundaryWholeTest {
    private static final int NONE = Support.NONE;
    private static final int MOST_FORKS = 8;
    private static final Support CHECK = new Support("BoundaryWholeTest");

    public static void main(String[] args) {
        leastMachines();
        aliases();
        bags();
        forks();
        exactly();
        shortestWay();
        inferredAndCompared();
        countedApart();
        provesNothing();
        sideBySide();
        CHECK.finish();
    }

    private static int[] o(int... numbers) {
        return numbers;
    }

    private static void due(String what, int got, int want) {
        CHECK.due(what, got, want);
    }

    private static void leastMachines() {
        CHECK.sentence(0, "texts that tell in which rows members may be called on an object (and on the one that it was"
                + " made from) become the least machines;");
        due("one end for both rows", Run.with("ab|cb").states(0), 3);
        due("one end for the owner's rows", Run.with("a'b|b'b|c'b|db").states(0), 3);
        due("all rows", Run.with("(a|b|c|d|e|f|g|h|i|j|k|l)*(.?.+)*").states(0), 1);
        due("the row without events", Run.with("(()|)*").states(0), 1);
        for (String rule : new String[] {"(a|b)*abb", "(a|b')*b'(a|b')", "(a|b)*a..", "a'?b'?c'?(d|e|f)*",
            "((a|b)(a|b))*", "(ab'|ba')*(a|b)?", "a(ab)*|b(ab)*", "(.a|.b|.c)+"}) {
            Table table = Table.of(rule);
            CHECK.same("no two states of \"" + rule + "\" can be one", least(table, Run.with(rule).states(0)),
                    table.text());
        }
    }

    private static String least(Table table, int states) {
        List<int[]> nexts = new ArrayList<>();
        List<Boolean> ends = new ArrayList<>();
        for (int state = 0; state < states; state++) {
            int[] row = new int[24];
            for (int event = 0; event < row.length; event++) {
                row[event] = table.next(state, event);
            }
            nexts.add(row);
            ends.add(table.isEnd(state));
        }
        return LeastModel.least(nexts, ends);
    }

    private static void judgedSentence() {
        CHECK.sentence(0, "code with aliases, bags and forks is judged for all its runs, exactly, with the shortest way"
                + " to a break;");
    }

    private static void aliases() {
        judgedSentence();
        Run one = Run.with("ab").code(0, o(0, 0, 0), o(2, 1, 0), o(4, 0, 0), o(4, 1, 1));
        due("one object by two names", one.judge(0, 0, 0), 1);
        Run two = Run.with("ab").code(0, o(0, 0, 0), o(0, 1, 0), o(4, 0, 0), o(4, 1, 1));
        due("two objects", two.judge(0, 0, 0), 0);
        CHECK.same("the second one breaks", two.places(), "0 1 2 3");
        Run later = Run.with("ab").code(0, o(0, 0, 0), o(2, 1, 0), o(0, 0, 1), o(4, 1, 0), o(4, 1, 1), o(4, 0, 3));
        due("the name of another object now", later.judge(0, 0, 0), 1);
    }

    private static void bags() {
        judgedSentence();
        Run once = Run.with("a?").code(0, o(0, 0, 0), o(8, 0), o(0, 1, 0), o(8, 1), o(9, 2), o(4, 2, 0));
        due("one of two is called once", once.judge(0, 0, 0), 1);
        Run twice = Run.with("a?").code(0, o(0, 0, 0), o(8, 0), o(0, 1, 0), o(8, 1), o(9, 2), o(4, 2, 0), o(9, 3),
                o(4, 3, 0));
        due("the same one may be taken again", twice.judge(0, 0, 0), 0);
        CHECK.same("by the last op", twice.places(), "0 1 2 3 4 5 6 7");
        Run emptied = Run.with("a?").code(0, o(0, 0, 0), o(8, 0), o(9, 2), o(4, 2, 0), o(10), o(9, 3), o(4, 3, 0));
        due("nothing to take again", emptied.judge(0, 0, 0), 1);
    }

    /** Forks one by one over calls of a: just one of all the runs has as many calls as there are forks. */
    private static void forks() {
        judgedSentence();
        for (int most = MOST_FORKS - 1; most <= MOST_FORKS; most++) {
            Run x = Run.with("a?".repeat(most)).code(0, o(0, 0, 0));
            StringBuilder places = new StringBuilder("0");
            for (int i = 0; i < MOST_FORKS; i++) {
                x.op(0, 5, 2 * i + 3, 0, 0);
                x.op(0, 4, 0, 0, 0);
                places.append(' ').append(2 * i + 1).append(' ').append(2 * i + 2);
            }
            due("runs with at most " + most + " calls", x.judge(0, 0, 0), most == MOST_FORKS ? 1 : 0);
            CHECK.same("the one run with more", x.places(), most == MOST_FORKS ? "" : places.toString());
        }
        Run round = Run.with("(ab)*").code(0, o(0, 0, 0), o(5, 5), o(4, 0, 0), o(4, 0, 1), o(6, 1));
        due("any number of rounds", round.judge(0, 0, 0), 1);
        Run seven = Run.with("(ab)?(ab)?(ab)?(ab)?(ab)?(ab)?(ab)?").code(0, o(0, 0, 0), o(5, 5), o(4, 0, 0), o(4, 0, 1),
                o(6, 1));
        due("seven rounds are too few", seven.judge(0, 0, 0), 0);
        due("ops up to the eighth round's a", seven.way(-1), 1 + 7 * 4 + 2);
    }

    /** Runs that can't be, though each of their parts can. */
    private static void exactly() {
        judgedSentence();
        Run x = Run.with("a").code(0, o(5, 2), o(0, 0, 0), o(7, 0, 4), o(4, 0, 0));
        due("called where it was made", x.judge(0, 0, 0), 1);
        Run y = Run.with("a").code(0, o(5, 3), o(0, 0, 0), o(8, 0), o(9, 1), o(7, 1, 6), o(4, 1, 0));
        due("called where it was put into the bag", y.judge(0, 0, 0), 1);
        Run z = Run.with("a").code(0, o(0, 0, 0), o(0, 1, 1), o(5, 4), o(3, 1), o(7, 1, 6), o(6, 7), o(4, 0, 0),
                o(7, 1, 9), o(4, 0, 0));
        due("called in one half alone", z.judge(0, 0, 0), 1);
    }

    private static void shortestWay() {
        judgedSentence();
        Run x = Run.with("a*").code(0, o(0, 0, 0), o(5, 6), o(10), o(10), o(4, 0, 1), o(11), o(4, 0, 0), o(4, 0, 2));
        due("two breaks", x.judge(0, 0, 0), 0);
        CHECK.same("the nearer one, at the higher places", x.places(), "0 1 6 7");
        Run y = Run.with("a*").code(0, o(0, 0, 0), o(5, 5), o(10), o(4, 0, 1), o(11), o(4, 0, 0), o(4, 0, 2));
        due("two breaks as near", y.judge(0, 0, 0), 0);
        CHECK.same("the one at the lower places", y.places(), "0 1 2 3");
    }

    private static void inferredAndCompared() {
        CHECK.sentence(0, "machines are inferred from a class's own checks, and compared;");
        Run x = Run.with("a?", "(ab)*a?", "a");
        x.step(1, 0, 0, 0, 1);
        x.step(1, 0, 2, 0, 1);
        for (int member = 1; member < 12; member++) {
            // Field 1 is never set, so that this one always throws.
            x.step(1, member, 0, 1, 0);
        }
        due("a number", x.infer(1), 3);
        due("the same as its rule", x.compare(3, 0), 0);
        due("and the other way round", x.compare(0, 3), 0);
        due("less than another one", x.compare(3, 1), 1);
        CHECK.same("which has also", x.row(), "0 1");
        due("more than a third one", x.compare(3, 2), 2);
        due("namely the row without events", x.witness(-1), 0);
    }

    private static void countedApart() {
        CHECK.sentence(0, "drawn runs are counted apart and prove nothing.");
        Run x = Run.with("ab?", "a").code(0, o(0, 0, 0), o(5, 3), o(4, 0, 0), o(5, 5), o(4, 0, 1));
        due("judged", x.judge(0, 0, 0), 0);
        due("compared", x.compare(0, 1), 2);
        int shapes = x.shapes();
        String way = x.places();
        due("nothing is counted by a judge()", x.counted(0, 0, 0, 0), 0);
        x.draw(0, 0, 1, 3, 100);
        due("the shapes are the judge()'s", x.shapes(), shapes);
        CHECK.same("and so is the way", x.places(), way);
        CHECK.same("and the row is the compare()'s", x.row(), "0 1");
        due("and no machine is one more", x.told(1), 2);
        due("counted", x.counted(0, 0, 0, 0), 100);
        int firsts = x.counted(0, 1, 0, 0);
        due("judged again", x.judge(0, 0, 0), 0);
        due("as many shapes", x.shapes(), shapes);
        due("what is counted stays", x.counted(0, 0, 0, 0), 100);
        due("of calls, too", x.counted(0, 1, 0, 0), firsts);
        due("and when the ops are gone", x.wipe(0), 5);
        due("it still stays", x.forget(), 100);
    }

    private static void provesNothing() {
        CHECK.sentence(0, "drawn runs are counted apart and prove nothing.");
        Run x = Run.with("(a|b|c|d)*").code(0, o(0, 0, 0));
        for (int i = 0; i < 14; i++) {
            x.op(0, 5, 17, 0, 0);
        }
        x.op(0, 4, 0, 4, 0);
        x.op(0, 4, 0, 0, 0);
        due("no break is drawn", x.draw(0, 0, 0, 1, 100), 0);
        due("but there is one", x.judge(0, 0, 0), 0);
        due("that calls e", x.way(x.way(-1) - 1), 15);
        Run y = Run.with("(a|b|c|d)*").code(0, o(0, 0, 0), o(4, 0, 3));
        due("what is kept has no break", y.judge(0, 0, 0), 1);
        due("and none is drawn", y.draw(0, 0, 0, 1, 100), 0);
    }

    /** Calls on two objects by turns: each answers as if it were alone. */
    private static void sideBySide() {
        CHECK.sentence(1, "Empty TEXT, no MACHINES, CLASSES whose MEMBERS have no STEPS, METHODS without OPS,"
                + " nothing COUNTED.");
        Run one = Run.with("ab", "a*").code(0, o(0, 0, 0), o(4, 0, 0));
        one.judge(0, 0, 0);
        one.compare(0, 1);
        one.draw(0, 0, 0, 5, 7);
        one.step(0, 0, 2, 0, 1);
        one.text("abc");
        Run other = new Run();
        for (int what = 0; what <= 9; what++) {
            due("told(" + what + ") of a new one beside it", other.told(what), 0);
        }
        due("its shapes", other.shapes(), 0);
        due("its way", other.way(-1), NONE);
        due("its witness", other.witness(-1), NONE);
        due("its objects", other.forget(), 0);
        due("its first machine", other.rule("b"), 0);
        other.code(0, o(0, 1, 0), o(4, 1, 1));
        due("it keeps its rule", other.judge(0, 0, 0), 1);
        due("it draws", other.draw(0, 0, 0, 1, 3), 0);
        due("the first one's bytes", one.told(0), 16);
        due("its machines", one.told(1), 2);
        CHECK.same("its way", one.places(), "0 1 2");
        CHECK.same("its row", one.row(), "");
        due("which has no events", one.witness(-1), 0);
        due("its objects", one.forget(), 7);
        due("and the other one's", other.forget(), 3);
    }
}
