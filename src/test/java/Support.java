/** What all tests use: a count of wrong answers, and texts as the numbers that feed() takes. */
final class Support {
    static final int BAD = -1, NONE = -2, FULL = -3;
    static final int NEW = 0, FROM = 1, COPY = 2, DROP = 3, CALL = 4, FORK = 5;
    static final int JUMP = 6, IF = 7, PUT = 8, GET = 9, EMPTY = 10, RETURN = 11;

    private final String name;
    private String sentence = "";
    private int checks;
    private int wrong;

    Support(String name) {
        this.name = name;
    }

    /** The sentence of the document that the next checks stand for, and the promise that it belongs to. */
    void sentence(int promise, String words) {
        sentence = "promise " + promise + " (" + words + "): ";
    }

    void is(String what, boolean got) {
        due(what, got ? 1 : 0, 1);
    }

    void due(String what, long got, long want) {
        checks++;
        if (got != want) {
            wrong++;
            if (wrong <= 40) {
                System.out.println(name + ": " + sentence + what + " answered " + got + ", due is " + want);
            }
        }
    }

    void same(String what, String got, String want) {
        checks++;
        if (!got.equals(want)) {
            wrong++;
            if (wrong <= 40) {
                System.out.println(name + ": " + sentence + what + "\n  is     " + got + "\n  due is " + want);
            }
        }
    }

    void finish() {
        System.out.println(name + ": " + checks + " checks, " + wrong + " wrong");
        if (wrong > 0 || checks == 0) {
            System.exit(1);
        }
    }

    /** Feeds a text, with blanks behind it up to a multiple of sixteen bytes. */
    static int feed(ProtocolMachines x, String text) {
        StringBuilder all = new StringBuilder(text);
        while (all.length() % 16 != 0) {
            all.append(' ');
        }
        int answer = 0;
        for (int at = 0; at < all.length(); at += 16) {
            answer = x.feed(four(all, at), four(all, at + 4), four(all, at + 8), four(all, at + 12));
        }
        return answer;
    }

    /** Feeds a text and cuts the blanks behind it. */
    static int feedExactly(ProtocolMachines x, String text) {
        feed(x, text);
        return x.cut((16 - text.length() % 16) % 16);
    }

    static int rule(ProtocolMachines x, String text) {
        feedExactly(x, text);
        return x.read();
    }

    static int four(CharSequence text, int at) {
        return (text.charAt(at) << 24) | (text.charAt(at + 1) << 16)
                | (text.charAt(at + 2) << 8) | text.charAt(at + 3);
    }

    static String way(ProtocolMachines x) {
        StringBuilder all = new StringBuilder();
        for (int i = 0; i < x.way(-1); i++) {
            all.append(x.way(i)).append(' ');
        }
        return all.toString().trim();
    }

    static String witness(ProtocolMachines x) {
        StringBuilder all = new StringBuilder();
        for (int i = 0; i < x.witness(-1); i++) {
            all.append(x.witness(i)).append(' ');
        }
        return all.toString().trim();
    }

    static String machine(ProtocolMachines x, int number) {
        StringBuilder all = new StringBuilder();
        for (int state = 0; state < x.states(number); state++) {
            all.append(x.ends(number, state) == 1 ? "[end" : "[");
            for (int event = 0; event < 24; event++) {
                int to = x.next(number, state, event);
                if (to != NONE) {
                    all.append(' ').append(event).append(':').append(to);
                }
            }
            all.append(']');
        }
        return all.toString();
    }
}
