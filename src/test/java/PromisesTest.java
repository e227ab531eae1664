/** Each promise of the document: ordinary inputs, the edges that it names, wrong inputs. */
public final class PromisesTest {
    private static final int BAD = Support.BAD, NONE = Support.NONE, FULL = Support.FULL;
    private static final int[] WRONG = {-1, Integer.MIN_VALUE, Integer.MAX_VALUE};
    private static final Support CHECK = new Support("PromisesTest");

    public static void main(String[] args) {
        promise1();
        promise2();
        promise3();
        promise4Faults();
        promise4Full();
        promise5();
        promise6();
        promise7();
        promise8();
        promise9();
        promise10();
        promise11();
        promise12();
        promise13();
        promise14();
        promise15();
        promise16();
        promise16Owners();
        promise17();
        promise18();
        promise19();
        promise20();
        promise21();
        promise22();
        CHECK.finish();
    }

    private static void due(String what, long got, long want) {
        CHECK.due(what, got, want);
    }

    private static ProtocolMachines with(String... rules) {
        ProtocolMachines x = new ProtocolMachines();
        for (int i = 0; i < rules.length; i++) {
            due("rule " + rules[i], Support.rule(x, rules[i]), i);
        }
        return x;
    }

    private static void code(ProtocolMachines x, int method, int[]... ops) {
        for (int i = 0; i < ops.length; i++) {
            int[] o = ops[i];
            int a = o.length > 1 ? o[1] : -7;
            int b = o.length > 2 ? o[2] : 99;
            int c = o.length > 3 ? o[3] : Integer.MIN_VALUE;
            due("op " + o[0] + " at " + i, x.op(method, o[0], a, b, c), i);
        }
    }

    private static int[] o(int... numbers) {
        return numbers;
    }

    private static void promise1() {
        due("BAD", ProtocolMachines.BAD, -1);
        due("NONE", ProtocolMachines.NONE, -2);
        due("FULL", ProtocolMachines.FULL, -3);
        ProtocolMachines x = new ProtocolMachines();
        for (int what = 0; what <= 9; what++) {
            due("1: told " + what, x.told(what), 0);
        }
        due("1: states", x.states(0), BAD);
        due("1: shapes", x.shapes(), 0);
        due("1: way", x.way(-1), NONE);
        due("1: way 0", x.way(0), NONE);
        due("1: witness", x.witness(-1), NONE);
        due("1: witness 0", x.witness(0), NONE);
        due("1: cut", x.cut(0), 0);
        due("1: cut 1", x.cut(1), BAD);
        for (int kind = 0; kind < 4; kind++) {
            due("1: plain", x.plain(kind), 0);
            due("1: wipe", x.wipe(kind), 0);
            due("1: counted", x.counted(kind, 0, 0, 0), 0);
            due("1: first", x.counted(kind, 1, 0, 0), 0);
            due("1: last", x.counted(kind, 2, 0, 0), 0);
            due("1: next", x.counted(kind, 3, 0, 0), 0);
        }
        due("1: forget", x.forget(), 0);
        due("1: read", x.read(), 0);
        CHECK.same("1: the empty rule", Support.machine(x, 0), "[end]");
        due("1: judge", x.judge(0, 0, 0), 1);
        due("1: shapes of nothing", x.shapes(), 1);
        due("1: infer", x.infer(3), 1);
        CHECK.same("1: free", Support.machine(x, 1),
                "[end 0:0 1:0 2:0 3:0 4:0 5:0 6:0 7:0 8:0 9:0 10:0 11:0]");
        ProtocolMachines y = new ProtocolMachines();
        due("1: another object has its own", y.told(1), 0);
    }

    private static void promise2() {
        ProtocolMachines x = new ProtocolMachines();
        int a = 0x61616161;
        for (int place = 0; place < 4; place++) {
            for (int shift = 0; shift < 32; shift += 8) {
                for (int wrong : new int[] {0, 31, 127, 128, 255}) {
                    int[] n = {a, a, a, a};
                    n[place] = (a & ~(255 << shift)) | (wrong << shift);
                    due("2: byte " + wrong, x.feed(n[0], n[1], n[2], n[3]), BAD);
                }
            }
        }
        due("2: nothing was fed", x.told(0), 0);
        due("2: 32 and 126", x.feed(0x207E207E, a, a, 0x7E7E2020), 16);
        due("2: read", x.read(), -11);
        due("2: the order", x.feed(0x61626364, 0x65666768, 0x696A6B6C, 0x61626364), 16);
        due("2: read the order", x.read(), 0);
        for (int i = 0; i < 16; i++) {
            due("2: in order " + i, x.next(0, i, i % 12), i + 1);
        }
        for (int i = 1; i <= 8; i++) {
            due("2: sixteen more", x.feed(a, a, a, a), 16 * i);
        }
        due("2: above 128", x.feed(a, a, a, a), FULL);
        due("2: BAD ahead of FULL", x.feed(a, a, a, 0), BAD);
        due("2: still 128", x.told(0), 128);
        due("2: cut", x.cut(15), 113);
        due("2: 129 would be", x.feed(a, a, a, a), FULL);
        due("2: cut one more", x.cut(1), 112);
        due("2: just 128", x.feed(a, a, a, a), 128);
    }

    private static void promise3() {
        ProtocolMachines x = new ProtocolMachines();
        Support.feed(x, "abcdefghijklabcd");
        due("3: 0", x.cut(0), 16);
        due("3: 17", x.cut(17), BAD);
        due("3: below 0", x.cut(-1), BAD);
        due("3: least", x.cut(Integer.MIN_VALUE), BAD);
        due("3: most", x.cut(Integer.MAX_VALUE), BAD);
        due("3: unchanged", x.told(0), 16);
        due("3: last ones go", x.cut(14), 2);
        due("3: read", x.read(), 0);
        CHECK.same("3: ab", Support.machine(x, 0), "[ 0:1][ 1:2][end]");
        due("3: read emptied it", x.cut(1), BAD);
        Support.feed(x, "a");
        due("3: all", x.cut(16), 0);
    }

    private static void fault(String text, int want) {
        ProtocolMachines x = new ProtocolMachines();
        Support.feedExactly(x, text);
        due("4: " + text, x.read(), want);
        due("4: emptied " + text, x.told(0), 0);
        due("4: no machine " + text, x.told(1), want < 0 ? 0 : 1);
    }

    private static void promise4Faults() {
        String[] fine = {"", "   ", "|", "||", "()", "()*", "(|)+", "a'", "a '", "a'*", "a * b", "( a | b ) ?", ".+",
            "((((((((((a))))))))))", "()()()()()()()()()()()", "(((((((((())))))))))", "a?b+c*"};
        for (String text : fine) {
            fault(text, 0);
        }
        fault("m", -10);
        fault("A", -10);
        fault("a1", -11);
        fault("*", -10);
        fault("a**", -12);
        fault("a*?", -12);
        fault("a+ +", -13);
        fault("(*a)", -11);
        fault("a|?", -12);
        fault("'", -10);
        fault(".'", -11);
        fault("(a)'", -13);
        fault("a*'", -12);
        fault("a''", -12);
        fault(")", -10);
        fault("a)", -11);
        fault("(a))", -13);
        fault("  a)", -13);
        fault("(", -11);
        fault("(a  ", -14);
        fault("((((((((((a))))))))))b(", -33);
        fault("(((((((((((", -20);
        fault("(((((((((( (a", -21);
        fault("()(((((((((((", -22);
        fault(String.valueOf(new char[127]).replace('\0', 'a') + "(", -138);
        fault(String.valueOf(new char[127]).replace('\0', 'a') + "m", -137);
        fault("~", -10);
        fault("a,b", -11);
    }

    private static String many(String what, int times) {
        StringBuilder all = new StringBuilder();
        for (int i = 0; i < times; i++) {
            all.append(what);
        }
        return all.toString();
    }

    private static void promise4Full() {
        fault(many("a", 23), 0);
        fault(many("a", 24), FULL);
        fault(many("a", 128), FULL);
        fault(many(" ", 127) + "a", 0);
        fault(".*|" + many("a", 98), 0);
        fault(".*|" + many("a", 99), FULL);
        fault(".*|" + many("b", 98), 0);
        fault(".*|" + many("b", 99), FULL);
        fault(".*|" + many("a", 63) + many("b", 35), 0);
        fault(many("(.", 10) + many(")*", 10) + many(".*", 49), 0);
        ProtocolMachines x = new ProtocolMachines();
        for (int i = 0; i < 12; i++) {
            due("4: machine " + i, Support.rule(x, many("a", i)), i);
        }
        due("4: the 13th", Support.rule(x, "a"), FULL);
        due("4: a fault ahead of FULL", Support.rule(x, "a)"), -11);
        due("4: text emptied", x.told(0), 0);
        due("4: still 12", x.told(1), 12);
        for (int i = 0; i < 12; i++) {
            due("4: states of " + i, x.states(i), i + 1);
        }
        ProtocolMachines y = with("a(b|c)*d", "(a|b)*abb", "a'b'|c");
        CHECK.same("4: a(b|c)*d", Support.machine(y, 0), "[ 0:1][ 1:1 2:1 3:2][end]");
        CHECK.same("4: (a|b)*abb", Support.machine(y, 1), "[ 0:1 1:0][ 0:1 1:2][ 0:1 1:3][end 0:1 1:0]");
        CHECK.same("4: a'b'|c", Support.machine(y, 2), "[ 2:1 12:2][end][ 13:1]");
        ProtocolMachines z = with("(ab|ac)d?", "a.b", "");
        CHECK.same("4: (ab|ac)d?", Support.machine(z, 0), "[ 0:1][ 1:2 2:2][end 3:3][end]");
        CHECK.same("4: a.b", Support.machine(z, 1), "[ 0:1][ 0:2 1:2 2:2 3:2 4:2 5:2 6:2 7:2 8:2 9:2 10:2 11:2]"
                + "[ 1:3][end]");
        CHECK.same("4: nothing", Support.machine(z, 2), "[end]");
    }

    private static void promise5() {
        ProtocolMachines x = with("ab", "");
        due("5: ab", x.states(0), 3);
        due("5: empty", x.states(1), 1);
        due("5: none", x.states(2), BAD);
        for (int wrong : WRONG) {
            due("5: wrong", x.states(wrong), BAD);
        }
    }

    private static void promise6() {
        ProtocolMachines x = with("ab'");
        due("6: a", x.next(0, 0, 0), 1);
        due("6: b'", x.next(0, 1, 13), 2);
        due("6: to BROKEN", x.next(0, 1, 1), NONE);
        due("6: of the owner", x.next(0, 0, 12), NONE);
        due("6: last event", x.next(0, 2, 23), NONE);
        due("6: event 24", x.next(0, 0, 24), BAD);
        due("6: state 3", x.next(0, 3, 0), BAD);
        due("6: machine 1", x.next(1, 0, 0), BAD);
        for (int wrong : WRONG) {
            due("6: machine", x.next(wrong, 0, 0), BAD);
            due("6: state", x.next(0, wrong, 0), BAD);
            due("6: event", x.next(0, 0, wrong), BAD);
        }
    }

    private static void promise7() {
        ProtocolMachines x = with("ab?");
        due("7: 0", x.ends(0, 0), 0);
        due("7: 1", x.ends(0, 1), 1);
        due("7: 2", x.ends(0, 2), 1);
        due("7: 3", x.ends(0, 3), BAD);
        due("7: machine 1", x.ends(1, 0), BAD);
        for (int wrong : WRONG) {
            due("7: machine", x.ends(wrong, 0), BAD);
            due("7: state", x.ends(0, wrong), BAD);
        }
    }

    private static void promise8() {
        ProtocolMachines x = with("a.*l", "a|l'", "a'", "");
        due("8: none", x.sees(0), 0);
        due("8: l'", x.sees(1), 1);
        due("8: a'", x.sees(2), 1);
        due("8: empty", x.sees(3), 0);
        due("8: machine 4", x.sees(4), BAD);
        for (int wrong : WRONG) {
            due("8: machine", x.sees(wrong), BAD);
        }
        x.infer(0);
        due("8: inferred", x.sees(4), 0);
    }

    private static void promise9() {
        ProtocolMachines x = with("ab|a", "a(b|)", "a", "ab*", "b", "a'", "");
        due("9: same", x.compare(0, 1), 0);
        due("9: with itself", x.compare(2, 2), 0);
        due("9: fewer", x.compare(2, 0), 1);
        due("9: more", x.compare(0, 2), 2);
        due("9: more, endless", x.compare(3, 0), 2);
        due("9: neither", x.compare(2, 4), 3);
        due("9: the owner's a is another event", x.compare(2, 5), 3);
        due("9: the empty row", x.compare(6, 2), 3);
        due("9: machine 7", x.compare(0, 7), BAD);
        due("9: machine 7 first", x.compare(7, 0), BAD);
        for (int wrong : WRONG) {
            due("9: m", x.compare(wrong, 0), BAD);
            due("9: n", x.compare(0, wrong), BAD);
        }
    }

    private static void promise10() {
        ProtocolMachines x = with("(a|b)*abb", "(a|b)*bb", "a|b'", "a|b'|c", "", "a", "c|b'");
        x.compare(0, 1);
        CHECK.same("10: bb", Support.witness(x), "1 1");
        due("10: how many", x.witness(-1), 2);
        due("10: behind the last", x.witness(2), NONE);
        due("10: -2", x.witness(-2), NONE);
        due("10: least", x.witness(Integer.MIN_VALUE), NONE);
        due("10: most", x.witness(Integer.MAX_VALUE), NONE);
        x.compare(2, 3);
        CHECK.same("10: c", Support.witness(x), "2");
        x.compare(2, 6);
        CHECK.same("10: a is less than c", Support.witness(x), "0");
        x.compare(4, 5);
        due("10: the row without events", x.witness(-1), 0);
        due("10: it has no event", x.witness(0), NONE);
        x.compare(2, 3);
        due("10: BAD", x.compare(2, 9), BAD);
        CHECK.same("10: BAD changes nothing", Support.witness(x), "2");
        due("10: the same", x.compare(5, 5), 0);
        due("10: none", x.witness(-1), NONE);
        due("10: none at all", x.witness(0), NONE);
    }

    private static void promise11() {
        ProtocolMachines x = new ProtocolMachines();
        for (int i = 1; i <= 6; i++) {
            due("11: " + i, x.step(3, 11, 2, 1, 3), i);
        }
        due("11: the 7th", x.step(3, 11, 0, 0, 0), FULL);
        due("11: BAD ahead of FULL", x.step(3, 11, 0, 0, 4), BAD);
        due("11: another member", x.step(3, 10, 0, 0, 0), 1);
        due("11: another class", x.step(2, 11, 1, 0, 0), 1);
        due("11: class 4", x.step(4, 0, 0, 0, 0), BAD);
        due("11: member 12", x.step(0, 12, 0, 0, 0), BAD);
        due("11: kind 3", x.step(0, 0, 3, 0, 0), BAD);
        due("11: field 2", x.step(0, 0, 0, 2, 0), BAD);
        due("11: value 4", x.step(0, 0, 0, 0, 4), BAD);
        for (int wrong : WRONG) {
            due("11: class", x.step(wrong, 0, 0, 0, 0), BAD);
            due("11: member", x.step(0, wrong, 0, 0, 0), BAD);
            due("11: kind", x.step(0, 0, wrong, 0, 0), BAD);
            due("11: field", x.step(0, 0, 0, wrong, 0), BAD);
            due("11: value", x.step(0, 0, 0, 0, wrong), BAD);
        }
        due("11: of class 3", x.told(9), 7);
        due("11: of class 2", x.told(8), 1);
        due("11: of class 0", x.told(6), 0);
    }

    private static void promise12() {
        ProtocolMachines x = new ProtocolMachines();
        x.step(1, 0, 0, 0, 0);
        x.step(1, 0, 0, 0, 0);
        x.step(1, 5, 0, 0, 0);
        x.step(2, 5, 0, 0, 0);
        due("12: class 4", x.plain(4), BAD);
        for (int wrong : WRONG) {
            due("12: class", x.plain(wrong), BAD);
        }
        due("12: three", x.plain(1), 3);
        due("12: none any more", x.plain(1), 0);
        due("12: told", x.told(7), 0);
        due("12: the other keeps its own", x.told(8), 1);
        due("12: steps begin anew", x.step(1, 0, 1, 0, 0), 1);
        x.infer(1);
        CHECK.same("12: old steps are gone", Support.machine(x, 0),
                "[end 0:0 1:0 2:0 3:0 4:0 5:0 6:0 7:0 8:0 9:0 10:0 11:0]");
    }

    private static void promise13() {
        ProtocolMachines x = new ProtocolMachines();
        // a opens what is closed, b closes what is open, c to l go always but i, which never does.
        x.step(0, 0, 0, 0, 1);
        x.step(0, 0, 2, 0, 1);
        x.step(0, 1, 1, 0, 1);
        x.step(0, 1, 2, 0, 0);
        x.step(0, 8, 2, 1, 2);
        x.step(0, 8, 0, 1, 2);
        due("13: open and close", x.infer(0), 0);
        CHECK.same("13: open and close", Support.machine(x, 0),
                "[end 0:1 2:0 3:0 4:0 5:0 6:0 7:0 9:0 10:0 11:0][end 1:0 2:1 3:1 4:1 5:1 6:1 7:1 9:1 10:1 11:1]");
        int[][] sixteen = {{2, 0, 1}, {2, 0, 2}, {2, 0, 3}, {2, 1, 1}, {2, 1, 2}, {2, 1, 3},
            {0, 0, 1}, {0, 0, 2}, {0, 0, 3}, {0, 1, 1}, {0, 1, 2}, {0, 1, 3}};
        for (int member = 0; member < 12; member++) {
            x.step(1, member, sixteen[member][0], sixteen[member][1], sixteen[member][2]);
        }
        due("13: sixteen", x.infer(1), 1);
        due("13: sixteen states", x.states(1), 16);
        due("13: class 4", x.infer(4), BAD);
        for (int wrong : WRONG) {
            due("13: class", x.infer(wrong), BAD);
        }
        due("13: still two", x.told(1), 2);
        due("13: its steps stay", x.told(6), 6);
        for (int i = 2; i < 12; i++) {
            due("13: machine " + i, x.infer(2), i);
        }
        due("13: the 13th", x.infer(2), FULL);
        due("13: BAD ahead of FULL", x.infer(4), BAD);
    }

    private static void promise14() {
        ProtocolMachines x = new ProtocolMachines();
        code(x, 0, o(0, 5, 3), o(1, 5, 3, 5), o(2, 5, 5), o(3, 5), o(4, 5, 11), o(5, 32), o(6, 32), o(7, 5, 32),
                o(8, 5), o(9, 5), o(10), o(11), o(5, 0), o(6, 0), o(7, 0, 0));
        int[][] wrong = {{12, 0, 0, 0}, {-1, 0, 0, 0}, {0, 6, 0, 0}, {0, -1, 0, 0}, {0, 0, 4, 0}, {0, 0, -1, 0},
            {1, 6, 0, 0}, {1, 0, 4, 0}, {1, 0, 0, 6}, {1, 0, 0, -1}, {2, 6, 0, 0}, {2, 0, 6, 0}, {2, 0, -1, 0},
            {3, 6, 0, 0}, {4, 6, 0, 0}, {4, 0, 12, 0}, {4, 0, -1, 0}, {5, 33, 0, 0}, {5, -1, 0, 0}, {6, 33, 0, 0},
            {6, -1, 0, 0}, {7, 6, 0, 0}, {7, 0, 33, 0}, {7, 0, -1, 0}, {8, 6, 0, 0}, {8, -1, 0, 0}, {9, 6, 0, 0},
            {9, -1, 0, 0}};
        for (int[] w : wrong) {
            due("14: op " + w[0] + " " + w[1] + " " + w[2] + " " + w[3], x.op(0, w[0], w[1], w[2], w[3]), BAD);
        }
        due("14: method 4", x.op(4, 10, 0, 0, 0), BAD);
        for (int w : WRONG) {
            due("14: method", x.op(w, 10, 0, 0, 0), BAD);
            due("14: op", x.op(0, w, 0, 0, 0), BAD);
        }
        due("14: told", x.told(2), 15);
        for (int i = 15; i < 32; i++) {
            due("14: place", x.op(0, 10, 0, 0, 0), i);
        }
        due("14: the 33rd", x.op(0, 10, 0, 0, 0), FULL);
        due("14: BAD ahead of FULL", x.op(0, 12, 0, 0, 0), BAD);
        due("14: another method", x.op(3, 10, 0, 0, 0), 0);
        due("14: told at last", x.told(2), 32);
    }

    private static void promise15() {
        ProtocolMachines x = with("a");
        code(x, 1, o(0, 0, 0), o(4, 0, 1));
        code(x, 2, o(10));
        due("15: method 4", x.wipe(4), BAD);
        for (int w : WRONG) {
            due("15: method", x.wipe(w), BAD);
        }
        due("15: broken before", x.judge(1, 0, 0), 0);
        due("15: two", x.wipe(1), 2);
        due("15: none any more", x.wipe(1), 0);
        due("15: the other stays", x.told(4), 1);
        due("15: kept now", x.judge(1, 0, 0), 1);
        due("15: ops begin anew", x.op(1, 10, 0, 0, 0), 0);
    }

    private static void promise16() {
        ProtocolMachines x = with("a*b", "ab");
        code(x, 0, o(0, 0, 1), o(5, 3), o(4, 0, 0), o(4, 0, 1), o(11));
        due("16: kept", x.judge(0, 1, 0), 1);
        due("16: no object of the kind", x.judge(0, 2, 1), 1);
        due("16: broken", x.judge(0, 1, 1), 0);
        CHECK.same("16: straight to b", Support.way(x), "0 1 3");
        // Two names for one object.
        code(x, 1, o(0, 0, 0), o(2, 1, 0), o(4, 0, 0), o(4, 1, 1));
        due("16: an alias", x.judge(1, 0, 1), 1);
        // Two objects in the bag: the first may be called twice, the second never.
        code(x, 2, o(0, 0, 0), o(8, 0), o(0, 0, 0), o(8, 0), o(9, 1), o(4, 1, 0), o(9, 1), o(4, 1, 1));
        due("16: a bag", x.judge(2, 0, 1), 0);
        CHECK.same("16: b first", Support.way(x), "0 1 2 3 4 5 6 7");
        // A call on none ends the run, with objects at no end.
        code(x, 3, o(0, 0, 0), o(4, 0, 0), o(4, 1, 0), o(4, 0, 1));
        due("16: a call on none", x.judge(3, 0, 1), 0);
        CHECK.same("16: it ends there", Support.way(x), "0 1 2");
        x.wipe(3);
        code(x, 3, o(0, 0, 0), o(4, 0, 0), o(1, 1, 0, 2), o(4, 0, 1));
        due("16: FROM none", x.judge(3, 0, 1), 0);
        CHECK.same("16: it ends there, too", Support.way(x), "0 1 2");
        x.wipe(3);
        code(x, 3, o(0, 0, 0), o(4, 0, 0), o(6, 1));
        due("16: endless a", x.judge(3, 0, 0), 1);
        due("16: never ends", x.shapes(), 5);
        due("16: ab does not take a second a", x.judge(3, 0, 1), 0);
        CHECK.same("16: around once", Support.way(x), "0 1 2 1");
        x.wipe(2);
        code(x, 2, o(4, 0, 0), o(0, 0, 0));
        due("16: nothing to call at first", x.judge(2, 0, 1), 1);
        due("16: just one shape", x.shapes(), 1);
        due("16: around again", x.judge(3, 0, 1), 0);
        due("16: method 4", x.judge(4, 0, 0), BAD);
        due("16: kind 4", x.judge(0, 4, 0), BAD);
        due("16: machine 2", x.judge(0, 0, 2), BAD);
        for (int w : WRONG) {
            due("16: method", x.judge(w, 0, 0), BAD);
            due("16: kind", x.judge(0, w, 0), BAD);
            due("16: machine", x.judge(0, 0, w), BAD);
        }
        CHECK.same("16: BAD changes nothing", Support.way(x), "0 1 2 1");
    }

    private static void promise16Owners() {
        ProtocolMachines x = with("(a|a')*b", "a", "b'|a");
        code(x, 0, o(0, 0, 2), o(1, 1, 1, 0), o(4, 0, 0), o(4, 1, 0), o(4, 0, 0), o(4, 1, 1));
        due("16: owner's calls", x.judge(0, 1, 0), 1);
        due("16: it has no b of its own", x.judge(0, 2, 0), 0);
        due("16: not seen, no event", x.judge(0, 1, 1), 0);
        CHECK.same("16: b is one too many", Support.way(x), "0 1 2 3 4 5");
        // The owner's calls ahead of the making are none of the row.
        code(x, 1, o(0, 0, 2), o(4, 0, 0), o(1, 0, 1, 0), o(8, 0), o(4, 0, 0));
        due("16: ahead of its making", x.judge(1, 1, 2), 1);
        // Of two owners just the one counts that it was made from.
        code(x, 2, o(0, 0, 2), o(0, 1, 2), o(1, 2, 1, 0), o(4, 1, 1), o(4, 0, 1));
        due("16: the right owner", x.judge(2, 1, 2), 1);
        code(x, 3, o(0, 0, 2), o(0, 1, 2), o(1, 2, 1, 0), o(4, 1, 1));
        due("16: the wrong owner", x.judge(3, 1, 2), 0);
        CHECK.same("16: at the end", Support.way(x), "0 1 2 3 4");
    }

    private static void promise17() {
        ProtocolMachines x = with("a*b", "(a|a')*b");
        due("17: before", x.shapes(), 0);
        code(x, 0, o(0, 0, 1), o(5, 3), o(4, 0, 0), o(4, 0, 1), o(11));
        x.judge(0, 1, 0);
        due("17: nine", x.shapes(), 9);
        // Without one chosen at 0 to 4, a likely owner at 1 to 4, one chosen at 1 to 4.
        x.judge(0, 1, 1);
        due("17: with likely owners", x.shapes(), 13);
        due("17: BAD", x.judge(0, 1, 9), BAD);
        due("17: BAD changes nothing", x.shapes(), 13);
        x.judge(1, 0, 0);
        due("17: no ops", x.shapes(), 1);
        // Behind a break there is no shape of the chosen one, but the others go on.
        code(x, 1, o(0, 0, 0), o(4, 0, 2), o(10), o(10));
        due("17: broken", x.judge(1, 0, 0), 0);
        due("17: five and one", x.shapes(), 6);
        edgeOfShapes();
    }

    /**
     * Six times an object or none: behind i of them there are 2^i shapes without one chosen and i 2^(i-1)
     * with one. That is 384 ahead of the 12 ops, 256 ahead of each further one (and of the return), 8 and 48
     * ahead of an EMPTY behind two and four of them, and 1 ahead of one that stands first.
     */
    private static void edgeOfShapes() {
        ProtocolMachines x = with("a");
        code(x, 0, manyShapes(0));
        due("17: 3000 are told", x.judge(0, 0, 0), 0);
        due("17: 3000", x.shapes(), 3000);
        CHECK.same("17: their way", Support.way(x), "0 1 2 4 5 7 9 10 12 14 15 16 17 18 19 20 21 22 23");
        code(x, 1, manyShapes(1));
        due("17: 3001 are too many", x.judge(1, 0, 0), NONE);
        due("17: 3001", x.shapes(), 3001);
        due("17: no way is known", x.way(-1), NONE);
        due("17: nor a place", x.way(0), NONE);
        due("17: again 3000", x.judge(0, 0, 0), 0);
        code(x, 2, manyShapes(8));
        due("17: far too many", x.judge(2, 0, 0), NONE);
        due("17: still 3001", x.shapes(), 3001);
        due("17: small again", x.judge(3, 0, 0), 1);
        due("17: one", x.shapes(), 1);
    }

    private static int[][] manyShapes(int blanks) {
        java.util.List<int[]> all = new java.util.ArrayList<>();
        for (int i = 0; i < blanks; i++) {
            all.add(o(10));
        }
        for (int variable = 0; variable < 6; variable++) {
            if (variable == 2 || variable == 4) {
                all.add(o(10));
            }
            all.add(o(5, all.size() + 2));
            all.add(o(0, variable, 0));
        }
        for (int i = 0; i < 9; i++) {
            all.add(o(10));
        }
        return all.toArray(new int[0][]);
    }

    private static void promise18() {
        ProtocolMachines x = with("a", "");
        due("18: before", x.way(-1), NONE);
        // Both branches break after as many ops: the one with the least places is told.
        code(x, 0, o(0, 0, 0), o(5, 4), o(10), o(6, 6), o(10), o(6, 6), o(4, 0, 1));
        due("18: broken", x.judge(0, 0, 0), 0);
        CHECK.same("18: the least", Support.way(x), "0 1 2 3 6");
        due("18: how many", x.way(-1), 5);
        due("18: behind the last", x.way(5), NONE);
        due("18: -2", x.way(-2), NONE);
        due("18: least", x.way(Integer.MIN_VALUE), NONE);
        due("18: most", x.way(Integer.MAX_VALUE), NONE);
        // The far branch is shorter.
        code(x, 1, o(0, 0, 0), o(5, 4), o(10), o(10), o(4, 0, 1));
        due("18: broken, too", x.judge(1, 0, 0), 0);
        CHECK.same("18: the fewest", Support.way(x), "0 1 4");
        due("18: wiped", x.wipe(1), 5);
        CHECK.same("18: the way stays", Support.way(x), "0 1 4");
        due("18: kept", x.judge(1, 0, 0), 1);
        due("18: none any more", x.way(-1), NONE);
        due("18: none at all", x.way(0), NONE);
        // A return where there is no op has a place.
        code(x, 2, o(0, 0, 0), o(6, 20));
        due("18: ends at no end", x.judge(2, 0, 0), 0);
        CHECK.same("18: at place 20", Support.way(x), "0 1 20");
        x.wipe(1);
        // The way by 1 and 3 comes to 6 without an object in variable 0, so that it does not go on to 7.
        code(x, 1, o(0, 1, 0), o(5, 4), o(3, 0), o(6, 6), o(0, 0, 1), o(6, 6), o(7, 0, 9), o(4, 1, 1), o(11),
                o(4, 1, 2));
        due("18: by one shape", x.judge(1, 0, 0), 0);
        CHECK.same("18: not by two", Support.way(x), "0 1 2 3 6 9");
        // Of two ways with one shape each, the choice of the object does not count, the places do.
        code(x, 3, o(5, 3), o(0, 0, 0), o(6, 4), o(0, 1, 0), o(11));
        due("18: two makings", x.judge(3, 0, 0), 0);
        CHECK.same("18: by places", Support.way(x), "0 3 4");
    }

    private static void promise19() {
        ProtocolMachines x = with("ab", "a*", "(a|b')*");
        code(x, 0, o(0, 0, 0), o(4, 0, 0), o(8, 0), o(5, 6), o(4, 0, 1), o(6, 7), o(0, 1, 0), o(9, 2), o(4, 2, 1));
        due("19: method 4", x.draw(4, 0, 0, 7, 1), BAD);
        due("19: kind 4", x.draw(0, 4, 0, 7, 1), BAD);
        due("19: machine 3", x.draw(0, 0, 3, 7, 1), BAD);
        due("19: 0 runs", x.draw(0, 0, 0, 7, 0), BAD);
        due("19: 101 runs", x.draw(0, 0, 0, 7, 101), BAD);
        for (int w : WRONG) {
            due("19: method", x.draw(w, 0, 0, 7, 1), BAD);
            due("19: kind", x.draw(0, w, 0, 7, 1), BAD);
            due("19: machine", x.draw(0, 0, w, 7, 1), BAD);
            due("19: runs", x.draw(0, 0, 0, 7, w), BAD);
        }
        due("19: nothing was counted", x.forget(), 0);
        due("19: twenty", x.draw(0, 0, 0, 7, 20), 20);
        due("19: a hundred", x.draw(0, 0, 1, -1, 100), 100);
        due("19: no such kind", x.draw(0, 1, 0, 7, 100), 0);
        // x = 0 becomes 12345, so that r is 0: the run goes on.
        code(x, 1, o(5, 3), o(0, 0, 0), o(11), o(0, 0, 1));
        x.forget();
        due("19: one run", x.draw(1, 0, 1, 0, 1), 0);
        due("19: 0 goes on", x.counted(0, 0, 0, 0), 1);
        // 200 ops that have not ended: no break at the end, and no last call.
        code(x, 2, o(0, 0, 0), o(4, 0, 0), o(6, 2));
        x.forget();
        due("19: left", x.draw(2, 0, 0, 5, 3), 0);
        due("19: left, first", x.counted(0, 1, 0, 0), 3);
        due("19: left, last", x.counted(0, 2, 0, 0), 0);
        // The owner's b is seen by the machine that has it.
        code(x, 3, o(0, 0, 1), o(1, 1, 0, 0), o(4, 0, 1), o(4, 1, 0), o(4, 0, 0));
        due("19: the owner's a breaks", x.draw(3, 0, 2, 5, 1), 1);
        due("19: not for one that does not see", x.draw(3, 0, 1, 5, 1), 0);
        lastOp();
    }

    /**
     * Five variables count up to 31: 4 ops, 31 times DROP, IF, GET, JUMP, 26 times a DROP and an IF more, 4 times
     * one DROP more, 11 ops when all have one: 195; then some EMPTYs and a RETURN.
     */
    private static void lastOp() {
        for (int blanks = 0; blanks <= 5; blanks++) {
            ProtocolMachines x = with("ab");
            code(x, 0, o(0, 0, 0), o(4, 0, 0), o(8, 0), o(3, 0), o(3, 5), o(7, 0, 21), o(3, 0), o(7, 1, 23), o(3, 1),
                    o(7, 2, 25), o(3, 2), o(7, 3, 28), o(3, 3), o(7, 4, 30), o(3, 4));
            for (int i = 0; i < 6; i++) {
                x.op(0, i < blanks ? 10 : 11, 0, 0, 0);
            }
            int[][] rest = {o(9, 0), o(6, 4), o(9, 1), o(6, 4), o(9, 2), o(3, 5), o(6, 4), o(9, 3), o(6, 4),
                o(9, 4), o(6, 4)};
            for (int[] r : rest) {
                x.op(0, r[0], r.length > 1 ? r[1] : 0, 0, 0);
            }
            due("19: 32 ops", x.told(2), 32);
            int ends = blanks <= 4 ? 1 : 0;
            due("19: " + (196 + blanks) + " ops", x.draw(0, 0, 0, 3, 1), ends);
            due("19: last of " + (196 + blanks), x.counted(0, 2, 0, 0), ends);
            due("19: first of " + (196 + blanks), x.counted(0, 1, 0, 0), 1);
        }
    }

    private static void promise20() {
        ProtocolMachines x = with("a");
        code(x, 0, o(0, 0, 0), o(0, 1, 3), o(4, 0, 0), o(4, 1, 5), o(4, 0, 1), o(4, 0, 1), o(4, 0, 2), o(4, 1, 5),
                o(1, 2, 3, 0), o(4, 0, 11));
        x.draw(0, 2, 0, 9, 10);
        due("20: objects of 0", x.counted(0, 0, -1, 77), 10);
        due("20: objects of 3", x.counted(3, 0, 12, -5), 20);
        due("20: objects of 1", x.counted(1, 0, 0, 0), 0);
        due("20: first a", x.counted(0, 1, 0, -1), 10);
        due("20: first b", x.counted(0, 1, 1, 0), 0);
        due("20: first of 3", x.counted(3, 1, 5, 0), 10);
        due("20: last l", x.counted(0, 2, 11, 99), 10);
        due("20: last of 3", x.counted(3, 2, 5, 0), 10);
        due("20: last c", x.counted(0, 2, 2, 0), 0);
        due("20: b behind a", x.counted(0, 3, 0, 1), 10);
        due("20: b behind b", x.counted(0, 3, 1, 1), 10);
        due("20: c behind b", x.counted(0, 3, 1, 2), 10);
        due("20: b behind c", x.counted(0, 3, 2, 1), 0);
        due("20: l behind c", x.counted(0, 3, 2, 11), 10);
        due("20: f behind f", x.counted(3, 3, 5, 5), 10);
        x.draw(0, 0, 0, 9, 5);
        due("20: all draws together", x.counted(0, 3, 2, 11), 15);
        due("20: kind 4", x.counted(4, 0, 0, 0), BAD);
        due("20: what 4", x.counted(0, 4, 0, 0), BAD);
        for (int what = 1; what <= 3; what++) {
            due("20: a = 12", x.counted(0, what, 12, 0), BAD);
            due("20: a = -1", x.counted(0, what, -1, 0), BAD);
        }
        due("20: b = 12", x.counted(0, 3, 0, 12), BAD);
        due("20: b = -1", x.counted(0, 3, 0, -1), BAD);
        for (int w : WRONG) {
            due("20: kind", x.counted(w, 0, 0, 0), BAD);
            due("20: what", x.counted(0, w, 0, 0), BAD);
        }
    }

    private static void promise21() {
        ProtocolMachines x = with("a");
        code(x, 0, o(0, 0, 0), o(4, 0, 0), o(0, 1, 2), o(4, 1, 3), o(4, 1, 4));
        for (int kind = 0; kind < 4; kind += 2) {
            x.draw(0, 0, 0, 9, 7);
            due("21: all kinds", x.forget(), 14);
            for (int a = 0; a < 12; a++) {
                int sum = x.counted(kind, 0, 0, 0) + x.counted(kind, 1, a, 0) + x.counted(kind, 2, a, 0);
                for (int b = 0; b < 12; b++) {
                    sum += x.counted(kind, 3, a, b);
                }
                due("21: nothing of " + kind, sum, 0);
            }
        }
        due("21: none any more", x.forget(), 0);
        due("21: ops stay", x.told(2), 5);
        due("21: machines stay", x.told(1), 1);
    }

    private static void promise22() {
        ProtocolMachines x = with("a", "b");
        Support.feedExactly(x, "abc");
        for (int method = 0; method < 4; method++) {
            for (int i = 0; i <= method; i++) {
                x.op(method, 10, 0, 0, 0);
            }
        }
        for (int cls = 0; cls < 4; cls++) {
            for (int i = 0; i < 5 + cls; i++) {
                x.step(cls, i % 3, 2, 0, 0);
            }
        }
        int[] want = {3, 2, 1, 2, 3, 4, 5, 6, 7, 8};
        for (int what = 0; what < 10; what++) {
            due("22: " + what, x.told(what), want[what]);
        }
        due("22: 10", x.told(10), BAD);
        for (int w : WRONG) {
            due("22: wrong", x.told(w), BAD);
        }
    }
}
