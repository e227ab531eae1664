/** Promises 11 to 13: a test of its own for each sentence with a boundary case. */
public final class BoundaryClassesTest {
    private static final int BAD = Support.BAD, NONE = Support.NONE, FULL = Support.FULL;
    private static final int IS = 0, IS_NOT = 1, SET = 2;
    private static final int[] OUTSIDE = {-1, Integer.MIN_VALUE, Integer.MAX_VALUE};
    private static final String FREE = "[end 0:0 1:0 2:0 3:0 4:0 5:0 6:0 7:0 8:0 9:0 10:0 11:0]";
    private static final Support CHECK = new Support("BoundaryClassesTest");

    public static void main(String[] args) {
        classesFieldsValues();
        sixStepsInOrder();
        stepsCounted();
        badSteps();
        fullSteps();
        plainClasses();
        badPlain();
        checksAndSettings();
        whatThrew();
        inferredRows();
        inferredNumbers();
        badInfer();
        fullInfer();
        CHECK.finish();
    }

    private static void due(String what, long got, long want) {
        CHECK.due(what, got, want);
    }

    /** Steps of members of class 0, each one told as member, kind, field, value. */
    private static Run steps(int[]... all) {
        Run x = new Run();
        for (int[] s : all) {
            CHECK.is("step", x.step(0, s[0], s[1], s[2], s[3]) > 0);
        }
        return x;
    }

    /** Where members a, b and c lead from the first state of what is inferred of class 0. */
    private static void leads(String what, Run x, int a, int b, int c) {
        due(what + ", infer", x.infer(0), 0);
        due(what + ", a", x.next(0, 0, 0), a);
        due(what + ", b", x.next(0, 0, 1), b);
        due(what + ", c", x.next(0, 0, 2), c);
    }

    private static void classesFieldsValues() {
        CHECK.sentence(11, "CLASSES 0 .. 3 have FIELDS 0 and 1 (values 0 .. 3, 0 at first),");
        for (int cls = 0; cls < 4; cls++) {
            for (int field = 0; field < 2; field++) {
                Run x = new Run();
                for (int value = 0; value < 4; value++) {
                    due("a check of " + value, x.step(cls, value, IS_NOT, field, value), 1);
                    due("a setting to " + value, x.step(cls, 4 + value, SET, field, value), 1);
                }
                due("infer", x.infer(cls), 0);
                due("four values", x.states(0), 4);
                for (int value = 0; value < 4; value++) {
                    due("0 at first, not " + value, x.next(0, 0, value), value == 0 ? 0 : NONE);
                    int behind = x.next(0, 0, 4 + value);
                    due("then " + value, x.next(0, behind, value), behind);
                    due("and not 0", x.next(0, behind, 0), value == 0 ? 0 : NONE);
                }
            }
        }
        Run x = steps(Run.o(0, SET, 0, 3), Run.o(1, IS_NOT, 1, 3));
        due("infer", x.infer(0), 0);
        due("a field is none of the other", x.next(0, x.next(0, 0, 0), 1), NONE);
        Run y = new Run();
        y.step(1, 0, IS, 0, 0);
        due("a class", y.infer(1), 0);
        due("another one", y.infer(2), 1);
        CHECK.same("which has no steps of it", y.machine(1), FREE);
    }

    private static void sixStepsInOrder() {
        CHECK.sentence(11, "and for each MEMBER up to 6 STEPS, done in order when it is called:");
        leads("set ahead of a check", steps(Run.o(0, SET, 0, 1), Run.o(0, IS, 0, 1)), NONE, 0, 0);
        // The check comes too early the first time, and throws the second time.
        Run x = steps(Run.o(0, IS, 0, 1), Run.o(0, SET, 0, 1));
        leads("a check ahead of set", x, 1, 0, 0);
        due("the second time", x.next(0, 1, 0), NONE);
        Run six = new Run();
        for (int i = 0; i < 5; i++) {
            due("set", six.step(0, 0, SET, 0, i % 4), i + 1);
            due("set", six.step(0, 1, SET, 0, i % 4), i + 1);
            due("set", six.step(0, 2, SET, 0, 1), i + 1);
        }
        due("the sixth step is a check", six.step(0, 0, IS, 0, 0), 6);
        due("that does not throw", six.step(0, 1, IS, 0, 3), 6);
        due("or sets", six.step(0, 2, SET, 0, 0), 6);
        leads("six steps", six, NONE, 0, 0);
        Run all = new Run();
        for (int member = 0; member < 12; member++) {
            for (int i = 1; i <= 6; i++) {
                due("member " + member, all.step(3, member, SET, 1, 0), i);
            }
        }
        due("72 in all", all.told(9), 72);
        due("infer", all.infer(3), 0);
        CHECK.same("nothing throws", all.machine(0), FREE);
    }

    private static void stepsCounted() {
        CHECK.sentence(11, "A STEP more of a CLASS's MEMBER: kind 0 CHECK =, 1 CHECK #, 2 SET, of a FIELD with a"
                + " value: how many it has.");
        Run x = new Run();
        due("the first", x.step(0, 0, 0, 0, 0), 1);
        due("the second", x.step(0, 0, 1, 1, 3), 2);
        due("of another member", x.step(0, 11, 2, 0, 3), 1);
        due("of another class", x.step(3, 0, 2, 1, 0), 1);
        due("the third", x.step(0, 0, 2, 1, 3), 3);
        due("the class has four", x.told(6), 4);
        due("the last class one", x.told(9), 1);
    }

    private static void badSteps() {
        CHECK.sentence(11, "BAD; FULL: 6.");
        int[] last = {3, 11, 2, 1, 3};
        Run x = new Run();
        for (int which = 0; which < 5; which++) {
            for (int wrong : new int[] {last[which] + 1, -1, Integer.MIN_VALUE, Integer.MAX_VALUE}) {
                int[] n = last.clone();
                n[which] = wrong;
                due("number " + which + " is " + wrong, x.step(n[0], n[1], n[2], n[3], n[4]), BAD);
                n = new int[5];
                n[which] = wrong;
                due("else 0, number " + which + " is " + wrong, x.step(n[0], n[1], n[2], n[3], n[4]), BAD);
            }
        }
        for (int cls = 0; cls < 4; cls++) {
            due("nothing of what was refused", x.told(6 + cls), 0);
        }
        due("the last of each", x.step(3, 11, 2, 1, 3), 1);
        due("the first of each", x.step(0, 0, 0, 0, 0), 1);
    }

    private static void fullSteps() {
        CHECK.sentence(11, "FULL: 6.");
        Run x = new Run();
        for (int i = 1; i <= 6; i++) {
            due("step " + i, x.step(0, 0, SET, 0, 0), i);
        }
        due("the seventh", x.step(0, 0, IS, 0, 0), FULL);
        due("BAD ahead of FULL", x.step(0, 0, IS, 0, 4), BAD);
        due("BAD ahead of FULL, kind", x.step(0, 0, 3, 0, 0), BAD);
        due("still six", x.told(6), 6);
        due("the next member has room", x.step(0, 1, IS, 0, 1), 1);
        leads("the seventh does not count", x, 0, 0, 0);
    }

    private static void plainClasses() {
        CHECK.sentence(12, "A CLASS's MEMBERS have no STEPS any more: how many there were. BAD.");
        Run x = new Run();
        due("none", x.plain(0), 0);
        for (int member = 0; member < 12; member++) {
            for (int i = 0; i < 6; i++) {
                x.step(0, member, IS, 0, 0);
            }
        }
        x.step(3, 11, IS, 1, 0);
        due("what was inferred before", x.infer(0), 0);
        due("the most", x.plain(0), 72);
        due("none any more", x.plain(0), 0);
        due("told", x.told(6), 0);
        due("what is inferred then", x.infer(0), 1);
        CHECK.same("every call threw", x.machine(0), "[end]");
        CHECK.same("none throws", x.machine(1), FREE);
        for (int i = 1; i <= 6; i++) {
            due("six again", x.step(0, 11, SET, 0, 0), i);
        }
        due("and FULL", x.step(0, 11, SET, 0, 0), FULL);
        due("the last class keeps its own", x.plain(3), 1);
    }

    private static void badPlain() {
        CHECK.sentence(12, "BAD.");
        Run x = new Run();
        x.step(3, 0, IS, 0, 0);
        due("class 4", x.plain(4), BAD);
        for (int cls : OUTSIDE) {
            due("class " + cls, x.plain(cls), BAD);
        }
        due("nothing changed", x.told(9), 1);
        due("class 3", x.plain(3), 1);
    }

    private static void checksAndSettings() {
        CHECK.sentence(13, "CHECK = (it throws if the FIELD has a value), CHECK # (if it has another one), SET (the"
                + " FIELD becomes a value).");
        for (int value = 0; value < 4; value++) {
            for (int now = 0; now < 4; now++) {
                Run x = steps(Run.o(0, SET, 1, now), Run.o(0, IS, 1, value), Run.o(1, SET, 1, now),
                        Run.o(1, IS_NOT, 1, value), Run.o(2, SET, 1, now));
                leads(now + " and " + value, x, now == value ? NONE : 0, now == value ? 0 : NONE, 0);
            }
        }
        // Set to what it is already.
        leads("set to the same", steps(Run.o(0, SET, 0, 0), Run.o(0, IS_NOT, 0, 0)), 0, 0, 0);
    }

    private static void whatThrew() {
        CHECK.sentence(13, "What it did before it throws stays done.");
        // a sets and then throws; that row is none, however c could go on behind it.
        Run x = steps(Run.o(0, SET, 0, 1), Run.o(0, IS, 0, 1), Run.o(2, IS_NOT, 0, 1));
        leads("a row with what threw is none", x, NONE, 0, NONE);
        CHECK.same("b and d to l alone", x.machine(0), "[end 1:0 3:0 4:0 5:0 6:0 7:0 8:0 9:0 10:0 11:0]");
        // What stands behind the check that throws is not done, and what stands ahead of it is, in one call.
        Run y = steps(Run.o(0, SET, 0, 1), Run.o(0, IS, 1, 1), Run.o(0, SET, 1, 1), Run.o(1, IS_NOT, 0, 1));
        due("infer", y.infer(0), 0);
        due("b first", y.next(0, 0, 1), NONE);
        due("a", y.next(0, 0, 0), 1);
        due("then b", y.next(0, 1, 1), 1);
        due("then a throws", y.next(0, 1, 0), NONE);
    }

    private static void inferredRows() {
        CHECK.sentence(13, "INFERRED is the MACHINE of all rows of MEMBERS (EVENTS 0 .. 11) none of which throws.");
        Run free = new Run();
        free.infer(0);
        CHECK.same("no steps", free.machine(0), FREE);
        Run none = new Run();
        for (int member = 0; member < 12; member++) {
            none.step(0, member, IS, 0, 0);
        }
        none.infer(0);
        CHECK.same("all throw: the row without events is left", none.machine(0), "[end]");
        Run most = new Run();
        for (int value = 0; value < 3; value++) {
            for (int field = 0; field < 2; field++) {
                most.step(1, 3 * field + value, IS_NOT, field, value);
                most.step(1, 3 * field + value, SET, field, value + 1);
            }
        }
        most.infer(1);
        due("sixteen states", most.states(0), 16);
        int ends = 0;
        int owners = 0;
        for (int state = 0; state < 16; state++) {
            ends += most.ends(0, state);
            for (int event = 12; event < 24; event++) {
                owners += most.next(0, state, event) == NONE ? 0 : 1;
            }
        }
        due("all are ends", ends, 16);
        due("no owner's event", owners, 0);
        CHECK.is("all of them, once", most.has(0, "abcdef") && !most.has(0, "aa") && !most.has(0, "b"));
        // Values that no member asks for are no states of their own.
        Run least = steps(Run.o(0, SET, 0, 1), Run.o(1, SET, 0, 2), Run.o(2, SET, 1, 3));
        least.infer(0);
        CHECK.same("nothing asks", least.machine(0), FREE);
    }

    private static void inferredNumbers() {
        CHECK.sentence(13, "What is INFERRED of a CLASS is a MACHINE more: its number.");
        Run x = new Run();
        for (int i = 0; i < 12; i++) {
            due("number", x.infer(i % 4), i);
            due("so many", x.told(1), i + 1);
        }
        Run y = Run.with("a", "b");
        y.step(0, 0, IS, 0, 0);
        due("behind the rules", y.infer(0), 2);
        due("the steps stay", y.told(6), 1);
        y.step(0, 1, IS, 0, 0);
        due("it stays as it was", y.next(2, 0, 1), 0);
    }

    private static void badInfer() {
        CHECK.sentence(13, "BAD; FULL: 12.");
        Run x = new Run();
        due("class 4", x.infer(4), BAD);
        for (int cls : OUTSIDE) {
            due("class " + cls, x.infer(cls), BAD);
        }
        due("none was made", x.told(1), 0);
        due("class 3", x.infer(3), 0);
    }

    private static void fullInfer() {
        CHECK.sentence(13, "FULL: 12.");
        Run x = Run.with("a", "a", "a", "a", "a", "a", "a", "a", "a", "a", "a");
        due("the 12th", x.infer(0), 11);
        due("the 13th", x.infer(0), FULL);
        due("BAD ahead of FULL", x.infer(4), BAD);
        due("BAD ahead of FULL, below", x.infer(-1), BAD);
        due("still 12", x.told(1), 12);
        due("no 13th", x.states(12), BAD);
        due("no room for a rule either", x.rule("a"), FULL);
        CHECK.same("the 12th is as it was", x.machine(11), FREE);
    }
}
