import java.util.ArrayList;
import java.util.HashMap;
import java.util.List;
import java.util.Map;
import java.util.Random;
import java.util.Set;
import java.util.TreeSet;

/** read() against a reader that goes down the grammar, and against a matcher that knows no machines. */
public final class RuleModelTest {
    private static final Support CHECK = new Support("RuleModelTest");

    /** A part of a rule: a place, or several parts one behind the other, or one of several, or a repeated one. */
    private static final class Node {
        final char kind;
        final List<Node> parts = new ArrayList<>();
        int place = -1;
        int event = -1;

        Node(char kind) {
            this.kind = kind;
        }

        boolean takes(int e) {
            return event == 24 ? e < 12 : event == e;
        }

        boolean empty() {
            boolean all = true;
            boolean some = false;
            for (Node p : parts) {
                all = all && p.empty();
                some = some || p.empty();
            }
            switch (kind) {
                case 'p': return false;
                case '|': return some;
                case '*':
                case '?': return true;
                default: return all;
            }
        }

        Set<Integer> edge(boolean first) {
            Set<Integer> found = new TreeSet<>();
            if (kind == 'p') {
                found.add(place);
            }
            for (int i = 0; i < parts.size(); i++) {
                Node p = parts.get(first ? i : parts.size() - 1 - i);
                found.addAll(p.edge(first));
                if (kind == 's' && !p.empty()) {
                    break;
                }
            }
            return found;
        }

        void follow(Map<Integer, Set<Integer>> behind) {
            for (int i = 0; i < parts.size(); i++) {
                parts.get(i).follow(behind);
                for (int k = i + 1; kind == 's' && k < parts.size(); k++) {
                    link(behind, parts.get(i), parts.get(k));
                    if (!parts.get(k).empty()) {
                        break;
                    }
                }
            }
            if (kind == '*' || kind == '+') {
                link(behind, parts.get(0), parts.get(0));
            }
        }

        private static void link(Map<Integer, Set<Integer>> behind, Node one, Node other) {
            for (int p : one.edge(false)) {
                behind.computeIfAbsent(p, k -> new TreeSet<>()).addAll(other.edge(true));
            }
        }

        /** Where a row can be left at by this part, when it comes in at one of some points. */
        Set<Integer> match(int[] row, Set<Integer> from) {
            Set<Integer> to = new TreeSet<>();
            switch (kind) {
                case 'p':
                    for (int at : from) {
                        if (at < row.length && takes(row[at])) {
                            to.add(at + 1);
                        }
                    }
                    return to;
                case 's':
                    to.addAll(from);
                    for (Node p : parts) {
                        to = p.match(row, to);
                    }
                    return to;
                case '|':
                    for (Node p : parts) {
                        to.addAll(p.match(row, from));
                    }
                    return to;
                default:
                    if (kind != '+') {
                        to.addAll(from);
                    }
                    Set<Integer> now = from;
                    for (int i = 0; i <= (kind == '?' ? 0 : row.length); i++) {
                        now = parts.get(0).match(row, now);
                        to.addAll(now);
                    }
                    return to;
            }
        }
    }

    /** Goes down the grammar; null if the text is no rule. */
    private static final class Descent {
        private final String text;
        private int at;
        private int places;

        Descent(String text) {
            this.text = text.replace(" ", "");
        }

        static Node whole(String text) {
            Descent d = new Descent(text);
            Node found = d.alt(0);
            return found != null && d.at == d.text.length() ? found : null;
        }

        private char now() {
            return at < text.length() ? text.charAt(at) : 0;
        }

        private Node alt(int depth) {
            Node all = new Node('|');
            do {
                if (now() == '|' && !all.parts.isEmpty()) {
                    at++;
                }
                Node s = seq(depth);
                if (s == null) {
                    return null;
                }
                all.parts.add(s);
            } while (now() == '|');
            return all;
        }

        private Node seq(int depth) {
            Node all = new Node('s');
            while (now() != 0 && now() != '|' && now() != ')') {
                Node atom = atom(depth);
                if (atom == null) {
                    return null;
                }
                if (now() == '*' || now() == '+' || now() == '?') {
                    Node repeated = new Node(now());
                    repeated.parts.add(atom);
                    atom = repeated;
                    at++;
                }
                all.parts.add(atom);
            }
            return all;
        }

        private Node atom(int depth) {
            char c = now();
            at++;
            if (c == '(') {
                Node inside = depth >= 10 ? null : alt(depth + 1);
                if (inside == null || now() != ')') {
                    return null;
                }
                at++;
                return inside;
            }
            if (c != '.' && (c < 'a' || c > 'l')) {
                return null;
            }
            Node place = new Node('p');
            place.place = places++;
            place.event = c == '.' ? 24 : c - 'a';
            if (c != '.' && now() == '\'') {
                place.event += 12;
                at++;
            }
            return place;
        }
    }

    /** A beginning of a rule becomes one by closing what is open. */
    private static boolean canBegin(String text) {
        StringBuilder all = new StringBuilder(text);
        for (int i = 0; i <= 10; i++) {
            if (Descent.whole(all.toString()) != null) {
                return true;
            }
            all.append(')');
        }
        return false;
    }

    private static int fault(String text) {
        for (int at = 0; at < text.length(); at++) {
            if (!canBegin(text.substring(0, at + 1))) {
                return -10 - at;
            }
        }
        return -10 - text.length();
    }

    private final List<Set<Integer>> sets = new ArrayList<>();
    private final List<int[]> nexts = new ArrayList<>();
    private final List<Boolean> ends = new ArrayList<>();

    /** All sets that rows lead to, however many there are below a bound. */
    private void lead(Node rule) {
        Map<Integer, Node> places = new HashMap<>();
        collect(rule, places);
        Map<Integer, Set<Integer>> behind = new HashMap<>();
        rule.follow(behind);
        Map<Set<Integer>, Integer> known = new HashMap<>();
        Set<Integer> start = Set.of(-1);
        known.put(start, 0);
        sets.add(start);
        for (int i = 0; i < sets.size() && sets.size() < 400; i++) {
            Set<Integer> reach = new TreeSet<>();
            for (int p : sets.get(i)) {
                reach.addAll(p < 0 ? rule.edge(true) : behind.getOrDefault(p, Set.of()));
            }
            int[] next = new int[24];
            for (int e = 0; e < 24; e++) {
                Set<Integer> to = new TreeSet<>();
                for (int p : reach) {
                    if (places.get(p).takes(e)) {
                        to.add(p);
                    }
                }
                if (!to.isEmpty() && !known.containsKey(to)) {
                    known.put(to, sets.size());
                    sets.add(to);
                }
                next[e] = to.isEmpty() ? -2 : known.get(to);
            }
            nexts.add(next);
        }
        Set<Integer> last = rule.edge(false);
        for (Set<Integer> s : sets) {
            boolean isEnd = s.contains(-1) && rule.empty();
            for (int p : s) {
                isEnd = isEnd || last.contains(p);
            }
            ends.add(isEnd);
        }
    }

    private static void collect(Node node, Map<Integer, Node> places) {
        if (node.kind == 'p') {
            places.put(node.place, node);
        }
        for (Node p : node.parts) {
            collect(p, places);
        }
    }

    private static int fullBySets;
    private static int fullByStates;
    private static int read;

    private static void one(String text, Random random) {
        ProtocolMachines x = new ProtocolMachines();
        int answer = Support.rule(x, text);
        Node rule = Descent.whole(text);
        CHECK.due("emptied " + text, x.told(0), 0);
        if (rule == null) {
            CHECK.due("fault " + text, answer, fault(text));
            return;
        }
        RuleModelTest model = new RuleModelTest();
        model.lead(rule);
        if (model.sets.size() > 100) {
            fullBySets++;
            CHECK.due("sets " + text, answer, Support.FULL);
            return;
        }
        String least = LeastModel.least(model.nexts, model.ends);
        if (least.equals("full")) {
            fullByStates++;
            CHECK.due("states " + text, answer, Support.FULL);
            return;
        }
        read++;
        CHECK.due("read " + text, answer, 0);
        Table table = Table.of(text);
        CHECK.same("machine of " + text, table.text(), least);
        CHECK.due("sees " + text, x.sees(0), least.matches(".* (1[2-9]|2[0-3]):.*") ? 1 : 0);
        for (int i = 0; i < 20; i++) {
            int[] row = new int[random.nextInt(8)];
            for (int k = 0; k < row.length; k++) {
                row[k] = random.nextInt(3) + (random.nextInt(5) == 0 ? 12 : 0);
            }
            boolean want = rule.match(row, new TreeSet<>(Set.of(0))).contains(row.length);
            CHECK.due("row of " + text, table.accepts(row) ? 1 : 0, want ? 1 : 0);
        }
    }

    private static String randomRule(Random random, int depth, int letters) {
        StringBuilder all = new StringBuilder();
        int pieces = random.nextInt(5);
        for (int i = 0; i < pieces; i++) {
            int pick = random.nextInt(12);
            if (pick == 0) {
                all.append('.');
            } else if (pick < 4 && depth < 5) {
                all.append('(').append(randomRule(random, depth + 1, letters)).append(')');
            } else if (pick < 5) {
                all.append('|');
                continue;
            } else {
                all.append((char) ('a' + random.nextInt(letters)));
                all.append(random.nextInt(6) == 0 ? "'" : "");
            }
            all.append(random.nextInt(3) == 0 ? "*+?".charAt(random.nextInt(3)) + "" : "");
            all.append(random.nextInt(20) == 0 ? " " : "");
        }
        return all.toString();
    }

    private static String randomBytes(Random random, String from) {
        StringBuilder all = new StringBuilder();
        int size = 1 + random.nextInt(20);
        for (int i = 0; i < size; i++) {
            all.append(from.charAt(random.nextInt(from.length())));
        }
        return all.toString();
    }

    public static void main(String[] args) {
        Random random = new Random(7);
        for (int i = 0; i < 6000; i++) {
            String text = randomRule(random, 0, 1 + random.nextInt(random.nextInt(8) == 0 ? 12 : 3));
            if (text.length() <= 128) {
                one(text, random);
            }
        }
        for (int i = 0; i < 6000; i++) {
            one(randomBytes(random, i % 2 == 0 ? "aab(()|*' ." : "abcl((()))))||*+?' .m"), random);
        }
        // Many sets: which of the last some events were an a.
        for (int i = 0; i < 300; i++) {
            StringBuilder tail = new StringBuilder(random.nextBoolean() ? "(a|b)*a" : ".*|(a|b)*a");
            int size = random.nextInt(8);
            for (int k = 0; k < size; k++) {
                tail.append(random.nextInt(4) == 0 ? "(a|b)?" : random.nextInt(4) == 0 ? "." : "(a|b)");
            }
            one(tail.toString(), random);
        }
        // All 128 places, on both sides of the 64th.
        for (int i = 0; i < 60; i++) {
            StringBuilder all = new StringBuilder(".*|");
            int size = 70 + random.nextInt(56);
            for (int k = 0; k < size; k++) {
                all.append((char) ('a' + random.nextInt(random.nextInt(10) == 0 ? 3 : 1)));
            }
            one(all.toString(), random);
        }
        // A row of places that leads to no states of its own, so that the rest has its places around the 64th.
        for (int i = 0; i < 1500; i++) {
            String rest = randomRule(random, 0, 3);
            if (rest.length() <= 55) {
                one("k(.*|" + "a".repeat(50 + random.nextInt(17)) + ")|" + rest, random);
            }
        }
        System.out.println(read + " rules read, full by sets " + fullBySets + ", by states " + fullByStates);
        CHECK.due("rules of all sorts", read > 5000 && fullBySets > 20 && fullByStates > 5 ? 1 : 0, 1);
        CHECK.finish();
    }
}
