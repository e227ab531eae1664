/** Promises 1 to 4 and the terms of rules: a test of its own for each sentence with a boundary case. */
public final class BoundaryTextTest {
    private static final int BAD = Support.BAD, NONE = Support.NONE, FULL = Support.FULL;
    private static final int LEAST = Integer.MIN_VALUE, MOST = Integer.MAX_VALUE;
    private static final int AAAA = 0x61616161, BLANK = 0x20202020;
    private static final Support CHECK = new Support("BoundaryTextTest");

    public static void main(String[] args) {
        constants();
        newObject();
        lastCall();
        bytesOfTheText();
        fedBytes();
        badBytes();
        fullText();
        cutBytes();
        badCuts();
        blanks();
        alternatives();
        rowWithoutEvents();
        oneMark();
        marks();
        atoms();
        faultPlaces();
        faultAtTheEnd();
        eleventhBracket();
        placesWithoutBrackets();
        setsOfPlaces();
        setOfItsOwn();
        hundredSets();
        mostMachinesAndStates();
        numbersOfRules();
        faultsOfRead();
        fullRead();
        readEmpties();
        CHECK.finish();
    }

    private static void due(String what, long got, long want) {
        CHECK.due(what, got, want);
    }

    private static String many(String what, int times) {
        return what.repeat(times);
    }

    /** What read() answers for just this text, as the first one of an object. */
    private static void reads(String text, int want) {
        Run x = new Run();
        due("\"" + text + "\"", x.rule(text), want);
        due("machines behind \"" + text + "\"", x.told(1), want < 0 ? 0 : 1);
    }

    private static void hasRows(String rule, String... rows) {
        Run x = Run.with(rule);
        for (String row : rows) {
            CHECK.is("\"" + rule + "\" has the row \"" + row + "\"", x.has(0, row));
        }
    }

    private static void lacksRows(String rule, String... rows) {
        Run x = Run.with(rule);
        for (String row : rows) {
            CHECK.is("\"" + rule + "\" lacks the row \"" + row + "\"", !x.has(0, row));
        }
    }

    private static void constants() {
        CHECK.sentence(1, "public static final int BAD = -1, NONE = -2, FULL = -3;");
        due("BAD", ProtocolMachines.BAD, -1);
        due("NONE", ProtocolMachines.NONE, -2);
        due("FULL", ProtocolMachines.FULL, -3);
    }

    private static void newObject() {
        CHECK.sentence(1, "Empty TEXT, no MACHINES, CLASSES whose MEMBERS have no STEPS, METHODS without OPS,"
                + " nothing COUNTED.");
        Run x = new Run();
        for (int what = 0; what <= 9; what++) {
            due("told(" + what + ")", x.told(what), 0);
        }
        due("a byte to cut", x.cut(1), BAD);
        due("machine 0", x.states(0), BAD);
        due("objects", x.forget(), 0);
        for (int i = 0; i < 4; i++) {
            due("steps of class " + i, x.plain(i), 0);
            due("ops of method " + i, x.wipe(i), 0);
            due("objects of kind " + i, x.counted(i, 0, 0, 0), 0);
            for (int a = 0; a < 12; a++) {
                due("first of kind " + i, x.counted(i, 1, a, 0), 0);
                due("last of kind " + i, x.counted(i, 2, a, 0), 0);
                due("next of kind " + i, x.counted(i, 3, a, 11 - a), 0);
            }
        }
        due("the empty text is a rule", x.read(), 0);
        Run y = new Run();
        due("another object has machines of its own", y.told(1), 0);
    }

    private static void lastCall() {
        CHECK.sentence(1, "An object is used for at most 512 calls after it has been made; what later calls answer"
                + " is free.");
        Run x = Run.with("a*").code(0, Run.o(0, 0, 0), Run.o(6, 0));
        int runs = 0;
        while (x.calls() < Run.MOST_CALLS - 1) {
            due("a draw", x.draw(0, 0, 0, runs, 100), 0);
            runs += 100;
        }
        // Of the 200 ops of a run every other one makes an object.
        due("the 512th call", x.forget(), runs * 100L);
        Run y = Run.with("(a|b)*abb", "(a|b)*ab");
        while (y.calls() < Run.MOST_CALLS - 1) {
            due("a compare", y.compare(0, 1), 3);
        }
        due("the 512th call, too", y.witness(-1), 2);
        Run z = Run.with("a").code(0, Run.o(0, 0, 0));
        while (z.calls() < Run.MOST_CALLS - 1) {
            due("a judge", z.judge(0, 0, 0), 0);
        }
        due("the 512th call as well", z.way(1), 1);
    }

    private static void bytesOfTheText() {
        CHECK.sentence(2, "THE TEXT has up to 128 bytes 32 .. 126;");
        Run x = new Run();
        for (int i = 1; i <= 8; i++) {
            due("up to 128", x.feed(BLANK, 0x7E7E7E7E, BLANK, 0x7E7E7E7E), 16 * i);
        }
        due("none above 128", x.feed(BLANK, BLANK, BLANK, BLANK), FULL);
        due("128 bytes", x.told(0), 128);
        due("its first byte 126 is told as a fault", x.read(), -14);
    }

    private static void fedBytes() {
        CHECK.sentence(2, "Sixteen bytes more of THE TEXT, the highest of each number first: how many it has.");
        Run x = new Run();
        due("sixteen", x.feed(0x61626364, 0x65666768, 0x696A6B6C, 0x6B696765), 16);
        due("thirty-two", x.feed(0x63612020, BLANK, BLANK, BLANK), 32);
        due("read", x.read(), 0);
        CHECK.is("in their order", x.has(0, "abcdefghijklkigeca"));
        for (int place = 0; place < 16; place++) {
            int[] n = {BLANK, BLANK, BLANK, BLANK};
            n[place / 4] += ('!' - ' ') << (24 - 8 * (place % 4));
            due("a byte at place " + place, x.feed(n[0], n[1], n[2], n[3]), 16);
            due("its fault", x.read(), -10 - place);
        }
    }

    private static void badBytes() {
        CHECK.sentence(2, "BAD: one is not 32 .. 126;");
        Run x = new Run();
        for (int place = 0; place < 16; place++) {
            for (int one : new int[] {0, 31, 127, 128, 255}) {
                due("byte " + one + " at " + place, feedOne(x, place, one), BAD);
            }
            for (int one : new int[] {32, 126}) {
                due("byte " + one + " at " + place, feedOne(x, place, one), 16);
                due("cut", x.cut(16), 0);
            }
        }
        due("nothing of what was refused", x.told(0), 0);
        x.text(many("a", 128));
        due("BAD ahead of FULL", feedOne(x, 15, 31), BAD);
        due("and FULL", feedOne(x, 15, 32), FULL);
    }

    private static int feedOne(Run x, int place, int one) {
        int[] n = {AAAA, AAAA, AAAA, AAAA};
        int shift = 24 - 8 * (place % 4);
        n[place / 4] = (AAAA & ~(255 << shift)) | (one << shift);
        return x.feed(n[0], n[1], n[2], n[3]);
    }

    private static void fullText() {
        CHECK.sentence(2, "FULL: they would be above 128.");
        Run x = new Run();
        x.text(many(" ", 112));
        due("112 and 16", x.feed(BLANK, BLANK, BLANK, 0x20202061), 128);
        for (int left = 127; left >= 113; left--) {
            due("cut", x.cut(1), left);
            due(left + " and 16", x.feed(AAAA, AAAA, AAAA, AAAA), FULL);
            due("still", x.told(0), left);
        }
        due("cut", x.cut(1), 112);
        due("again 112 and 16", x.feed(BLANK, BLANK, BLANK, 0x20202062), 128);
        due("read", x.read(), 0);
        CHECK.same("nothing of what was refused", x.machine(0), "[ 1:1][end]");
    }

    private static void cutBytes() {
        CHECK.sentence(3, "The last n bytes of THE TEXT go: how many are left.");
        Run x = new Run();
        due("none of none", x.cut(0), 0);
        x.text("abcdefghijklabcd");
        due("none", x.cut(0), 16);
        due("one", x.cut(1), 15);
        due("all but two", x.cut(13), 2);
        due("read", x.read(), 0);
        CHECK.same("the last ones went", x.machine(0), "[ 0:1][ 1:2][end]");
        x.text(many("a", 128));
        due("all of 128", x.cut(128), 0);
        due("read", x.read(), 1);
        CHECK.same("nothing was left", x.machine(1), "[end]");
    }

    private static void badCuts() {
        CHECK.sentence(3, "BAD: n is below 0, or there are not so many.");
        Run x = new Run();
        due("one of none", x.cut(1), BAD);
        due("-1 of none", x.cut(-1), BAD);
        x.text("ab");
        for (int n : new int[] {-1, -16, LEAST, 17, 32, 128, 129, MOST}) {
            due(n + " of 16", x.cut(n), BAD);
        }
        due("still", x.told(0), 16);
        due("16 of 16", x.cut(16), 0);
        due("one of none again", x.cut(1), BAD);
        x.text(many("a", 128));
        due("129 of 128", x.cut(129), BAD);
        x.read();
        due("read() left none", x.cut(1), BAD);
    }

    private static void blanks() {
        CHECK.sentence(4, "bytes 32 count for nothing.");
        reads(many(" ", 128), 0);
        Run x = Run.with("ab'*(c|d)+", "  a b  '  * (  c |  d )  + ", " ", "");
        due("blanks anywhere", x.compare(0, 1), 0);
        due("blanks alone", x.compare(2, 3), 0);
        reads("a * *", -14);
        reads(many(" ", 127) + "a", 0);
        reads("a" + many(" ", 127), 0);
        reads("a' '", -13);
    }

    private static void alternatives() {
        CHECK.sentence(4, "A RULE: ALT. ALT: SEQ { | SEQ }.");
        Run x = Run.with("a|b|c|d|e|f|g|h|i|j|k|l", many("a|", 63) + "a|", many("|", 128), "a");
        for (int event = 0; event < 24; event++) {
            due("event " + event, x.next(0, 0, event), event < 12 ? 1 : NONE);
        }
        due("63 times a and a row without events", x.compare(3, 1), 1);
        due("the row without events", x.witness(-1), 0);
        CHECK.same("128 bars", x.machine(2), "[end]");
        CHECK.is("bars bind less than rows", Run.with("ab|c").has(0, "c") && !Run.with("ab|c").has(0, "ac"));
    }

    private static void rowWithoutEvents() {
        CHECK.sentence(4, "SEQ: { PIECE } (none: the row without EVENTS).");
        for (String rule : new String[] {"", "|", "()", "()()", "(|)", "(())", "||"}) {
            CHECK.same("only the row without events: " + rule, Run.with(rule).machine(0), "[end]");
        }
        for (String rule : new String[] {"a|", "|a", "(|a)", "(a|)", "()|a", "a?"}) {
            CHECK.same("a or nothing: " + rule, Run.with(rule).machine(0), "[end 0:1][end]");
        }
        CHECK.same("in the middle", Run.with("a(|b)c").machine(0), "[ 0:1][ 1:2 2:3][ 2:3][end]");
    }

    private static void oneMark() {
        CHECK.sentence(4, "PIECE: ATOM, and perhaps one of * + ? behind it");
        for (String mark : new String[] {"*", "+", "?"}) {
            reads("a" + mark, 0);
            reads("a'" + mark, 0);
            reads("." + mark, 0);
            reads("()" + mark, 0);
            reads(mark, -10);
            reads("(" + mark, -11);
            reads("a|" + mark, -12);
            for (String other : new String[] {"*", "+", "?"}) {
                reads("a" + mark + other, -12);
                reads("(a" + mark + ")" + other, 0);
                reads("(a)" + mark + other, -14);
            }
        }
    }

    private static void marks() {
        CHECK.sentence(4, "(any number of times; one at least; once or not).");
        hasRows("a*", "", "a", "aa", "aaaaaaaaaaaa");
        hasRows("a+", "a", "aa", "aaaaaaaaaaaa");
        lacksRows("a+", "", "b");
        hasRows("a?", "", "a");
        lacksRows("a?", "aa", "b");
        hasRows("(ab)*c", "c", "abc", "ababc");
        lacksRows("(ab)*c", "ac", "ab", "abac");
        hasRows("(ab)+c", "abc", "ababc");
        lacksRows("(ab)+c", "c", "aab");
        hasRows("(ab)?c", "c", "abc");
        lacksRows("(ab)?c", "ababc");
        hasRows("(a?)+", "", "a", "aa");
        hasRows("(a*b*)?", "", "ab", "b", "aabb");
        lacksRows("(a*b*)?", "ba");
        hasRows("()+", "");
        hasRows("(a|b?)*", "", "ab", "ba", "bbaa");
        hasRows("ab?", "a", "ab");
        lacksRows("ab?", "", "abab");
    }

    private static void atoms() {
        CHECK.sentence(4, "ATOM: a MEMBER; a MEMBER and ' (the OWNER's); . (any EVENT of 0 .. 11); ( ALT ).");
        for (int i = 0; i < 12; i++) {
            char member = (char) ('a' + i);
            CHECK.same("member", Run.with("" + member).machine(0), "[ " + i + ":1][end]");
            CHECK.same("the owner's", Run.with(member + "'").machine(0), "[ " + (12 + i) + ":1][end]");
        }
        // The bytes next to what is told, and the ends of what a text can have.
        for (String no : new String[] {"`", "m", "/", "-", "&", ",", "A", "L", "{", "}", "~", "!", "0"}) {
            reads(no, -10);
            reads("a" + no, -11);
        }
        Run x = Run.with(".");
        for (int event = 0; event < 24; event++) {
            due("any event: " + event, x.next(0, 0, event), event < 12 ? 1 : NONE);
        }
        reads("'", -10);
        reads(".'", -11);
        reads("(a)'", -13);
        reads("a''", -12);
        reads("a*'", -12);
        reads("|'", -11);
        reads("('", -11);
        reads(")", -10);
        reads("a)", -11);
        reads("(a))", -13);
        CHECK.same("brackets", Run.with("((a)(b|c))").machine(0), "[ 0:1][ 1:2 2:2][end]");
    }

    private static void faultPlaces() {
        CHECK.sentence(4, "FAULTS: -10 less the place of the first byte that can't stand there");
        reads("m", -10);
        reads("am", -11);
        reads("m)", -10);
        reads("  m  )", -12);
        reads(many("a", 126) + "mm", -136);
        reads(many("a", 127) + "m", -137);
        reads(many(" ", 127) + "*", -137);
        reads(many("a", 127) + ")", -137);
        // The first of several, also when a bracket is left open.
        reads("(a**", -13);
    }

    private static void faultAtTheEnd() {
        CHECK.sentence(4, "(the end: how many bytes there are);");
        reads("(", -11);
        reads("(a|", -13);
        reads("(a  ", -14);
        reads("a(b)(", -15);
        reads(many("(", 10), -20);
        reads(many(" ", 126) + "(", -137);
        reads(many("a", 127) + "(", -138);
        reads("(" + many("a", 127), -138);
    }

    private static void eleventhBracket() {
        CHECK.sentence(4, "also of a ( that would be the 11th open at once.");
        reads(many("(", 10) + "a" + many(")", 10), 0);
        reads(many("(", 11) + "a" + many(")", 11), -20);
        reads(many("(", 10) + " (", -21);
        reads(many("(", 10) + ")(a)" + many(")", 9), 0);
        reads(many("(", 10) + ")((a))" + many(")", 9), -22);
        reads(many("()", 64), 0);
        reads(many("(", 10) + many(")", 10) + many("(", 10) + many(")", 10), 0);
        reads(many("(", 10) + many(")", 10) + many("(", 11), -40);
        // It is a fault even where the rule would be FULL.
        reads(many("a", 30) + many("(", 11), -50);
    }

    private static void placesWithoutBrackets() {
        CHECK.sentence(4, "PLACES of a RULE are its ATOMS without brackets, one by one from the left.");
        // As many places, and so as many sets, with brackets as without.
        reads(".*|" + many("((((((((((a))))))))))", 5) + many("a", 20), 0);
        reads(".*|" + many("(", 10) + many("a", 98) + many(")", 10), 0);
        reads(".*|" + many("(", 10) + many("a", 99) + many(")", 10), FULL);
        // Equal atoms are places of their own: two ways to one b are two sets.
        reads(".*|" + many("a", 95) + "(b|ab)", 0);
        reads(".*|" + many("a", 96) + "(b|ab)", FULL);
        // As many places as there are bytes.
        reads(many("a", 128), FULL);
        reads(many(".", 128), FULL);
        // What stands behind many places is read as if it stood alone, and so is what is read next.
        for (int places = 50; places <= 75; places++) {
            Run x = new Run();
            due("many places", x.rule("k(.*|" + many("a", places) + ")|b(c|d)*(e'|f?g)+"), 0);
            due("few places", x.rule("k.*|b(c|d)*(e'|f?g)+"), 1);
            due("many places again", x.rule("k.*|l(.*|" + many("b", places) + ")|(ab)*|(b|c)(d*e')?"), 2);
            due("few places again", x.rule("k.*|l.*|(ab)*|(b|c)(d*e')?"), 3);
            due(places + " and some places", x.compare(0, 1), 0);
            due(places + " and some places again", x.compare(2, 3), 0);
        }
    }

    private static void setsOfPlaces() {
        CHECK.sentence(4, "A row of EVENTS LEADS to the set of those PLACES that can have taken its last EVENT, when"
                + " all of it so far is the beginning of some row of the RULE");
        // Behind n times an a these are the dot and the first n; behind 98 of them it does not change any more.
        reads("(.|" + many("a", 98) + ")*", 0);
        reads("(.|" + many("a", 99) + ")*", FULL);
        // Every owner's event leads to one set more.
        reads("(.|" + many("a", 97) + "|a')*", 0);
        reads("(.|" + many("a", 98) + "|a')*", FULL);
        // The last event alone counts, not the place of those ahead of it.
        CHECK.same("one set for many rows", Run.with("(a|b|c|d)*l").machine(0), "[ 0:0 1:0 2:0 3:0 11:1][end]");
    }

    private static void setOfItsOwn() {
        CHECK.sentence(4, "(the row without EVENTS: to a set of its own).");
        // The dot, the dot with each of n a's, and the set of the row without events: n + 2.
        reads(".*|" + many("a", 98), 0);
        reads(".*|" + many("a", 99), FULL);
        reads("(.*)*|" + many("b", 98), 0);
        reads("(.*)*|" + many("b", 99), FULL);
    }

    private static void hundredSets() {
        CHECK.sentence(4, "A RULE whose rows lead to more than 100 different sets (but that of no PLACE) is FULL.");
        // Those of ".*|aa.." behind a k: all rows that do not begin with k lead to no place.
        reads("k(.*|" + many("a", 97) + ")", 0);
        reads("k(.*|" + many("a", 98) + ")", FULL);
        // Which of the last events were an a: with each one more the sets double.
        reads(".*|(a|b)*a(a|b)(a|b)(a|b)(a|b)", 0);
        reads(".*|(a|b)*a(a|b)(a|b)(a|b)(a|b)(a|b)(a|b)", FULL);
        // What is FULL by its sets would have had one state only.
        CHECK.same("one state", Run.with(".*|" + many("a", 98)).machine(0), Run.with(".*").machine(0));
    }

    private static void mostMachinesAndStates() {
        CHECK.sentence(4, "MACHINES have 24 STATES at most; there are 12 at most.");
        reads(many("a", 23), 0);
        reads(many("a", 24), FULL);
        reads("(" + many("b'", 24) + ")*", 0);
        reads("(" + many("b'", 25) + ")*", FULL);
        reads(many("a?", 23), 0);
        reads(many("a?", 24), FULL);
        Run x = Run.with(many("a", 23));
        due("24 states", x.states(0), 24);
        for (int state = 0; state < 24; state++) {
            due("state " + state, x.next(0, state, 0), state == 23 ? NONE : state + 1);
        }
        for (int i = 1; i < 12; i++) {
            due("machine " + i, x.rule("a"), i);
        }
        due("the 13th", x.rule("a"), FULL);
        due("12", x.told(1), 12);
    }

    private static void numbersOfRules() {
        CHECK.sentence(4, "THE TEXT is a RULE, its MACHINE one more: its number.");
        Run x = new Run();
        for (int i = 0; i < 12; i++) {
            due("number", x.rule(many("a", i)), i);
            due("so many", x.told(1), i + 1);
        }
        for (int i = 0; i < 12; i++) {
            due("machine " + i + " is its own", x.states(i), i + 1);
        }
        Run y = new Run();
        due("inferred ones count with them", y.infer(0), 0);
        due("one more", y.rule("a"), 1);
    }

    private static void faultsOfRead() {
        CHECK.sentence(4, "A FAULT;");
        Run x = Run.with("ab");
        due("a fault", x.rule("a)"), -11);
        due("no machine more", x.told(1), 1);
        due("the next number", x.rule("c"), 1);
        CHECK.same("as before", x.machine(0), "[ 0:1][ 1:2][end]");
        for (int i = 2; i < 12; i++) {
            x.rule("a");
        }
        due("a fault where there is no room", x.rule("a)"), -11);
        due("at the end, too", x.rule("a("), -12);
        reads(many("a", 24) + ")", -34);
        reads(".*|" + many("a", 99) + ")", -112);
    }

    private static void fullRead() {
        CHECK.sentence(4, "FULL: 12 MACHINES, 101 sets of PLACES, 25 STATES.");
        Run x = new Run();
        for (int i = 0; i < 11; i++) {
            due("machine " + i, x.rule("b"), i);
        }
        due("101 sets", x.rule(".*|" + many("a", 99)), FULL);
        due("25 states", x.rule(many("a", 24)), FULL);
        due("still 11", x.told(1), 11);
        due("the 12th", x.rule(".*|" + many("a", 98)), 11);
        due("the 13th", x.rule("b"), FULL);
        due("the 13th, without events", x.read(), FULL);
        due("12", x.told(1), 12);
        due("the last one", x.states(11), 1);
        due("there is no 13th", x.states(12), BAD);
        due("the 11th", x.states(10), 2);
    }

    private static void readEmpties() {
        CHECK.sentence(4, "What is refused changes nothing (but read() empties THE TEXT in any case).");
        String[] texts = {"a", "", "a)", "(", ".*|" + many("a", 99), many("a", 24)};
        int[] answers = {0, 0, -11, -11, FULL, FULL};
        for (int i = 0; i < texts.length; i++) {
            Run x = new Run();
            due("read " + texts[i], x.rule(texts[i]), answers[i]);
            due("emptied", x.told(0), 0);
            due("nothing to cut", x.cut(1), BAD);
            due("sixteen again", x.text("b"), 16);
            due("the next", x.read(), answers[i] < 0 ? 0 : 1);
            CHECK.same("is b alone", x.machine(answers[i] < 0 ? 0 : 1), "[ 1:1][end]");
        }
        Run x = new Run();
        for (int i = 0; i < 12; i++) {
            x.read();
        }
        due("no room", x.rule("ab"), FULL);
        due("emptied without room", x.told(0), 0);
    }
}
