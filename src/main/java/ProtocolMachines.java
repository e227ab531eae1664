import java.util.Arrays;

/** Rules of use as machines, code judged against them, and drawn runs that are only counted. */
public final class ProtocolMachines {
    public static final int BAD = -1, NONE = -2, FULL = -3;

    private static final int MEMBERS = 12, EVENTS = 24, KINDS = 4;
    private static final int MOST_BYTES = 128, MOST_OPEN = 10, MOST_SETS = 100;
    private static final int MOST_MACHINES = 12, MOST_STATES = 24;
    private static final int CLASSES = 4, FIELDS = 2, VALUES = 4, STEP_KINDS = 3, MOST_STEPS = 6;
    private static final int METHODS = 4, MOST_OPS = 32, VARIABLES = 6, MOST_SHAPES = 3000;
    private static final int MOST_RUNS = 100, RUN_OPS = 200;

    private static final int NEW = 0, FROM = 1, COPY = 2, DROP = 3, CALL = 4, FORK = 5;
    private static final int JUMP = 6, IF = 7, PUT = 8, GET = 9, EMPTY = 10, RETURN = 11;

    private final byte[] text;
    private int textLength;
    private final RuleReader reader;
    private final Draft draft;
    private final Machine[] machines;
    private int machineCount;
    private final Comparison comparison;
    private final CheckedClass[] classes;
    private final Code[] methods;
    // Made at the first judge(): it is the largest part, and many objects never judge.
    private Shapes found;
    private int shapeCount;
    private int wayLength;
    private final DrawnRuns drawnRuns;

    public ProtocolMachines() {
        text = new byte[MOST_BYTES];
        reader = new RuleReader();
        draft = new Draft();
        machines = new Machine[MOST_MACHINES];
        comparison = new Comparison();
        classes = new CheckedClass[CLASSES];
        for (int i = 0; i < CLASSES; i++) {
            classes[i] = new CheckedClass();
        }
        methods = new Code[METHODS];
        for (int i = 0; i < METHODS; i++) {
            methods[i] = new Code();
        }
        drawnRuns = new DrawnRuns();
    }

    // ---- rules

    public int feed(int a, int b, int c, int d) {
        if (!isText(a) || !isText(b) || !isText(c) || !isText(d)) {
            return BAD;
        }
        if (textLength + 16 > MOST_BYTES) {
            return FULL;
        }
        append(a);
        append(b);
        append(c);
        append(d);
        return textLength;
    }

    public int cut(int n) {
        if (n < 0 || n > textLength) {
            return BAD;
        }
        textLength -= n;
        return textLength;
    }

    public int read() {
        int length = textLength;
        textLength = 0;
        int fault = reader.parse(text, length);
        if (fault != 0) {
            return fault;
        }
        if (machineCount >= MOST_MACHINES || !reader.fill(draft)) {
            return FULL;
        }
        return keep(draft.least());
    }

    public int states(int machine) {
        Machine asked = machineOf(machine);
        return asked == null ? BAD : asked.states;
    }

    public int next(int machine, int state, int event) {
        Machine asked = machineOf(machine);
        if (asked == null || !below(state, asked.states) || !below(event, EVENTS)) {
            return BAD;
        }
        return asked.leads(state, event);
    }

    public int ends(int machine, int state) {
        Machine asked = machineOf(machine);
        if (asked == null || !below(state, asked.states)) {
            return BAD;
        }
        return asked.isEnd(state) ? 1 : 0;
    }

    public int sees(int machine) {
        Machine asked = machineOf(machine);
        if (asked == null) {
            return BAD;
        }
        return asked.seesOwners ? 1 : 0;
    }

    public int compare(int m, int n) {
        Machine one = machineOf(m);
        Machine other = machineOf(n);
        if (one == null || other == null) {
            return BAD;
        }
        return comparison.relate(one, other);
    }

    public int witness(int i) {
        return comparison.eventOfRow(i);
    }

    // ---- classes

    public int step(int cls, int member, int kind, int field, int value) {
        if (!below(cls, CLASSES) || !below(member, MEMBERS) || !below(kind, STEP_KINDS)
                || !below(field, FIELDS) || !below(value, VALUES)) {
            return BAD;
        }
        return classes[cls].add(member, kind, field, value);
    }

    public int plain(int cls) {
        return below(cls, CLASSES) ? classes[cls].clear() : BAD;
    }

    public int infer(int cls) {
        if (!below(cls, CLASSES)) {
            return BAD;
        }
        if (machineCount >= MOST_MACHINES) {
            return FULL;
        }
        classes[cls].fill(draft);
        return keep(draft.least());
    }

    // ---- code

    public int op(int method, int op, int a, int b, int c) {
        if (!below(method, METHODS) || !fits(op, a, b, c)) {
            return BAD;
        }
        return methods[method].add(op, a, b, c);
    }

    public int wipe(int method) {
        return below(method, METHODS) ? methods[method].clear() : BAD;
    }

    public int judge(int method, int kind, int machine) {
        Machine asked = machineOf(machine);
        if (!below(method, METHODS) || !below(kind, KINDS) || asked == null) {
            return BAD;
        }
        if (found == null) {
            found = new Shapes();
        }
        Judge judge = new Judge(methods[method], kind, asked);
        wayLength = 0;
        if (!judge.explore(found)) {
            shapeCount = MOST_SHAPES + 1;
            return NONE;
        }
        shapeCount = found.size();
        wayLength = found.findWay();
        return wayLength == 0 ? 1 : 0;
    }

    public int shapes() {
        return shapeCount;
    }

    public int way(int i) {
        if (found == null || wayLength == 0) {
            return NONE;
        }
        if (i == -1) {
            return wayLength;
        }
        return below(i, wayLength) ? found.wayPlace(i) : NONE;
    }

    // ---- drawn runs

    public int draw(int method, int kind, int machine, int x, int runs) {
        Machine asked = machineOf(machine);
        if (!below(method, METHODS) || !below(kind, KINDS) || asked == null
                || runs < 1 || runs > MOST_RUNS) {
            return BAD;
        }
        drawnRuns.begin(kind, x);
        for (int run = 0; run < runs; run++) {
            drawnRuns.runOnce(methods[method], asked);
        }
        return drawnRuns.breaks();
    }

    public int counted(int kind, int what, int a, int b) {
        if (!below(kind, KINDS) || !below(what, 4) || (what > 0 && !below(a, MEMBERS))
                || (what == 3 && !below(b, MEMBERS))) {
            return BAD;
        }
        switch (what) {
            case 0:
                return drawnRuns.tally.objects(kind);
            case 1:
                return drawnRuns.tally.firsts(kind, a);
            case 2:
                return drawnRuns.tally.lasts(kind, a);
            default:
                return drawnRuns.tally.pairs(kind, a, b);
        }
    }

    public int forget() {
        return drawnRuns.tally.clear();
    }

    public int told(int what) {
        if (what == 0) {
            return textLength;
        }
        if (what == 1) {
            return machineCount;
        }
        if (below(what - 2, METHODS)) {
            return methods[what - 2].size();
        }
        return below(what - 6, CLASSES) ? classes[what - 6].size() : BAD;
    }

    // ---- help for the face

    private static boolean below(int n, int bound) {
        return n >= 0 && n < bound;
    }

    private static boolean isText(int four) {
        for (int shift = 24; shift >= 0; shift -= 8) {
            int one = (four >>> shift) & 255;
            if (one < 32 || one > 126) {
                return false;
            }
        }
        return true;
    }

    private void append(int four) {
        for (int shift = 24; shift >= 0 && textLength < MOST_BYTES; shift -= 8) {
            text[textLength++] = (byte) (four >>> shift);
        }
    }

    private Machine machineOf(int number) {
        return below(number, machineCount) ? machines[number] : null;
    }

    private int keep(Machine machine) {
        if (machine == null || machineCount >= MOST_MACHINES) {
            return FULL;
        }
        machines[machineCount] = machine;
        return machineCount++;
    }

    private static boolean fits(int op, int a, int b, int c) {
        boolean variable = below(a, VARIABLES);
        switch (op) {
            case NEW:
                return variable && below(b, KINDS);
            case FROM:
                return variable && below(b, KINDS) && below(c, VARIABLES);
            case COPY:
                return variable && below(b, VARIABLES);
            case CALL:
                return variable && below(b, MEMBERS);
            case DROP:
            case PUT:
            case GET:
                return variable;
            case IF:
                return variable && below(b, MOST_OPS + 1);
            case FORK:
            case JUMP:
                return below(a, MOST_OPS + 1);
            default:
                return op == EMPTY || op == RETURN;
        }
    }

    /** A machine in its least form. */
    private static final class Machine {
        final int states;
        final boolean seesOwners;
        private final int[] nexts;
        private final int[] endings;

        Machine(int states, int[] nexts, int[] endings) {
            this.states = states;
            this.nexts = nexts;
            this.endings = endings;
            boolean sees = false;
            for (int i = 0; i < nexts.length; i++) {
                sees = sees || (i % EVENTS >= MEMBERS && nexts[i] != NONE);
            }
            this.seesOwners = sees;
        }

        int leads(int state, int event) {
            return nexts[state * EVENTS + event];
        }

        boolean isEnd(int state) {
            return endings[state] == 1;
        }
    }

    /** A machine that may have several nodes for one state; none of them is without a way to an end. */
    private static final class Draft {
        private int count;
        private final int[] nexts = new int[MOST_SETS * EVENTS];
        private final int[] endings = new int[MOST_SETS];
        private final int[] group = new int[MOST_SETS];
        private final int[] finer = new int[MOST_SETS];
        private final int[] heads = new int[MOST_STATES];
        private final int[] numbers = new int[MOST_STATES];
        private final int[] leastNexts = new int[MOST_STATES * EVENTS];
        private final int[] leastEndings = new int[MOST_STATES];

        void clear() {
            count = 0;
        }

        int size() {
            return count;
        }

        int add(boolean isEnd) {
            if (count >= MOST_SETS) {
                return FULL;
            }
            Arrays.fill(nexts, count * EVENTS, (count + 1) * EVENTS, NONE);
            endings[count] = isEnd ? 1 : 0;
            return count++;
        }

        void lead(int node, int event, int to) {
            nexts[node * EVENTS + event] = to;
        }

        /** The least machine; null if it has too many states. */
        Machine least() {
            System.arraycopy(endings, 0, group, 0, count);
            int groups = 0;
            for (int round = 0; round <= MOST_STATES; round++) {
                int split = refine();
                if (split == FULL) {
                    return null;
                }
                if (split == groups) {
                    return numbered(groups);
                }
                groups = split;
            }
            return null;
        }

        private int refine() {
            int found = 0;
            for (int node = 0; node < count; node++) {
                int to = groupLike(node, found);
                if (to == found) {
                    if (found >= MOST_STATES) {
                        return FULL;
                    }
                    heads[found++] = node;
                }
                finer[node] = to;
            }
            System.arraycopy(finer, 0, group, 0, count);
            return found;
        }

        private int groupLike(int node, int found) {
            for (int i = 0; i < found; i++) {
                if (alike(heads[i], node)) {
                    return i;
                }
            }
            return found;
        }

        private boolean alike(int one, int other) {
            if (group[one] != group[other]) {
                return false;
            }
            for (int event = 0; event < EVENTS; event++) {
                if (groupBehind(one, event) != groupBehind(other, event)) {
                    return false;
                }
            }
            return true;
        }

        private int groupBehind(int node, int event) {
            int to = nexts[node * EVENTS + event];
            return to == NONE ? NONE : group[to];
        }

        private Machine numbered(int groups) {
            Arrays.fill(numbers, NONE);
            numbers[group[0]] = 0;
            heads[0] = 0;
            int known = 1;
            for (int state = 0; state < known && state < groups; state++) {
                int node = heads[state];
                leastEndings[state] = endings[node];
                for (int event = 0; event < EVENTS; event++) {
                    int to = groupBehind(node, event);
                    if (to != NONE && numbers[to] == NONE && known < MOST_STATES) {
                        numbers[to] = known;
                        heads[known++] = nexts[node * EVENTS + event];
                    }
                    leastNexts[state * EVENTS + event] = to == NONE ? NONE : numbers[to];
                }
            }
            return new Machine(known, Arrays.copyOf(leastNexts, known * EVENTS),
                    Arrays.copyOf(leastEndings, known));
        }
    }

    /** The places that a part of a rule can begin and end with, and whether it has the empty row. */
    private static final class Part {
        long firstLow;
        long firstHigh;
        private long lastLow;
        private long lastHigh;
        boolean hasEmpty;

        void becomeNothing() {
            firstLow = 0;
            firstHigh = 0;
            lastLow = 0;
            lastHigh = 0;
            hasEmpty = false;
        }

        void becomeEmpty() {
            becomeNothing();
            hasEmpty = true;
        }

        void becomePlace(int place) {
            becomeNothing();
            if (place < 64) {
                firstLow = 1L << place;
            } else {
                firstHigh = 1L << (place - 64);
            }
            lastLow = firstLow;
            lastHigh = firstHigh;
        }

        void become(Part other) {
            becomeNothing();
            join(other);
        }

        void join(Part other) {
            firstLow |= other.firstLow;
            firstHigh |= other.firstHigh;
            lastLow |= other.lastLow;
            lastHigh |= other.lastHigh;
            hasEmpty = hasEmpty || other.hasEmpty;
        }

        void append(Part other) {
            if (hasEmpty) {
                firstLow |= other.firstLow;
                firstHigh |= other.firstHigh;
            }
            if (!other.hasEmpty) {
                lastLow = 0;
                lastHigh = 0;
            }
            lastLow |= other.lastLow;
            lastHigh |= other.lastHigh;
            hasEmpty = hasEmpty && other.hasEmpty;
        }

        boolean endsAt(int place) {
            long half = place < 64 ? lastLow : lastHigh;
            return ((half >>> (place & 63)) & 1L) != 0;
        }

        boolean endsIn(long low, long high) {
            return (lastLow & low) != 0 || (lastHigh & high) != 0;
        }
    }

    /** Reads a text as a rule, and leads its rows to sets of places. */
    private static final class RuleReader {
        // What stands ahead of a byte: no atom that could be marked, a member, another atom.
        private static final int OPEN = 0, MEMBER = 1, ATOM = 2, FAULTY = 3;
        private static final int ANY = EVENTS;

        private final Part[] alts = new Part[MOST_OPEN + 1];
        private final Part[] rows = new Part[MOST_OPEN + 1];
        private final Part piece = new Part();
        private int depth;
        private int places;
        private final int[] takes = new int[MOST_BYTES];
        private final long[] followLow = new long[MOST_BYTES];
        private final long[] followHigh = new long[MOST_BYTES];
        private final long[] eventLow = new long[EVENTS];
        private final long[] eventHigh = new long[EVENTS];
        private final long[] setLow = new long[MOST_SETS];
        private final long[] setHigh = new long[MOST_SETS];
        private long reachLow;
        private long reachHigh;

        RuleReader() {
            for (int i = 0; i <= MOST_OPEN; i++) {
                alts[i] = new Part();
                rows[i] = new Part();
            }
        }

        /** 0, or the fault. */
        int parse(byte[] text, int length) {
            depth = 0;
            places = 0;
            beginAlt();
            int ahead = OPEN;
            for (int at = 0; at < length; at++) {
                if (text[at] != ' ') {
                    ahead = take(text[at], ahead);
                }
                if (ahead == FAULTY) {
                    return -10 - at;
                }
            }
            if (depth > 0) {
                return -10 - length;
            }
            endPiece(ahead);
            alts[0].join(rows[0]);
            return 0;
        }

        private int take(int one, int ahead) {
            if (one == '\'') {
                return takeOwnerMark(ahead);
            }
            if (one == '*' || one == '+' || one == '?') {
                return takeRepeat(one, ahead);
            }
            endPiece(ahead);
            switch (one) {
                case '(':
                    return takeOpening();
                case ')':
                    return takeClosing();
                case '|':
                    alts[depth].join(rows[depth]);
                    rows[depth].becomeEmpty();
                    return OPEN;
                case '.':
                    return takePlace(ANY);
                default:
                    return below(one - 'a', MEMBERS) ? takePlace(one - 'a') : FAULTY;
            }
        }

        private int takeOpening() {
            if (depth >= MOST_OPEN) {
                return FAULTY;
            }
            depth++;
            beginAlt();
            return OPEN;
        }

        private int takeClosing() {
            if (depth <= 0) {
                return FAULTY;
            }
            alts[depth].join(rows[depth]);
            piece.become(alts[depth]);
            depth--;
            return ATOM;
        }

        private int takeOwnerMark(int ahead) {
            if (ahead != MEMBER || places <= 0) {
                return FAULTY;
            }
            takes[places - 1] += MEMBERS;
            return ATOM;
        }

        private int takeRepeat(int one, int ahead) {
            if (ahead == OPEN) {
                return FAULTY;
            }
            if (one != '?') {
                link(piece, piece);
            }
            piece.hasEmpty = piece.hasEmpty || one != '+';
            endPiece(ahead);
            return OPEN;
        }

        private int takePlace(int event) {
            if (places >= MOST_BYTES) {
                return FAULTY;
            }
            takes[places] = event;
            followLow[places] = 0;
            followHigh[places] = 0;
            piece.becomePlace(places);
            places++;
            return event == ANY ? ATOM : MEMBER;
        }

        private void beginAlt() {
            alts[depth].becomeNothing();
            rows[depth].becomeEmpty();
        }

        private void endPiece(int ahead) {
            if (ahead != OPEN) {
                link(rows[depth], piece);
                rows[depth].append(piece);
            }
        }

        private void link(Part before, Part behind) {
            for (int place = 0; place < places; place++) {
                if (before.endsAt(place)) {
                    followLow[place] |= behind.firstLow;
                    followHigh[place] |= behind.firstHigh;
                }
            }
        }

        /** Whether the sets of the rule that was read have room in the draft. */
        boolean fill(Draft draft) {
            sortPlaces();
            draft.clear();
            // Set 0 is the row without events: a set of its own, whatever places others have.
            draft.add(alts[0].hasEmpty);
            for (int set = 0; set < draft.size() && set < MOST_SETS; set++) {
                reachFrom(set);
                for (int event = 0; event < EVENTS; event++) {
                    long low = reachLow & eventLow[event];
                    long high = reachHigh & eventHigh[event];
                    if (low != 0 || high != 0) {
                        int to = setOf(draft, low, high);
                        if (to == FULL) {
                            return false;
                        }
                        draft.lead(set, event, to);
                    }
                }
            }
            return true;
        }

        private void sortPlaces() {
            Arrays.fill(eventLow, 0L);
            Arrays.fill(eventHigh, 0L);
            for (int place = 0; place < places; place++) {
                int from = takes[place] == ANY ? 0 : takes[place];
                int to = takes[place] == ANY ? MEMBERS - 1 : from;
                for (int event = from; event <= to; event++) {
                    if (place < 64) {
                        eventLow[event] |= 1L << place;
                    } else {
                        eventHigh[event] |= 1L << (place - 64);
                    }
                }
            }
        }

        private void reachFrom(int set) {
            if (set == 0) {
                reachLow = alts[0].firstLow;
                reachHigh = alts[0].firstHigh;
                return;
            }
            reachLow = 0;
            reachHigh = 0;
            for (int place = 0; place < places; place++) {
                long half = place < 64 ? setLow[set] : setHigh[set];
                if (((half >>> (place & 63)) & 1L) != 0) {
                    reachLow |= followLow[place];
                    reachHigh |= followHigh[place];
                }
            }
        }

        private int setOf(Draft draft, long low, long high) {
            for (int set = 1; set < draft.size(); set++) {
                if (setLow[set] == low && setHigh[set] == high) {
                    return set;
                }
            }
            int added = draft.add(alts[0].endsIn(low, high));
            if (added != FULL) {
                setLow[added] = low;
                setHigh[added] = high;
            }
            return added;
        }
    }

    /** How the rows of two machines relate, and the least row that just one of them has. */
    private static final class Comparison {
        private static final int BROKEN = MOST_STATES, WIDTH = MOST_STATES + 1;

        private final int[] queue = new int[WIDTH * WIDTH];
        private final int[] cameFrom = new int[WIDTH * WIDTH];
        private final int[] cameBy = new int[WIDTH * WIDTH];
        private final int[] row = new int[WIDTH * WIDTH];
        private int count;
        private int rowLength = NONE;

        int relate(Machine one, Machine other) {
            boolean onlyOne = false;
            boolean onlyOther = false;
            Arrays.fill(cameFrom, NONE);
            count = 0;
            rowLength = NONE;
            reach(0, 0, NONE);
            for (int at = 0; at < count && at < queue.length; at++) {
                int left = queue[at] / WIDTH;
                int right = queue[at] % WIDTH;
                boolean inOne = left != BROKEN && one.isEnd(left);
                boolean inOther = right != BROKEN && other.isEnd(right);
                if (inOne != inOther && rowLength == NONE) {
                    tellRow(queue[at]);
                }
                onlyOne = onlyOne || (inOne && !inOther);
                onlyOther = onlyOther || (inOther && !inOne);
                for (int event = 0; event < EVENTS; event++) {
                    reach(pairBehind(one, left, other, right, event), queue[at], event);
                }
            }
            return (onlyOne ? 2 : 0) + (onlyOther ? 1 : 0);
        }

        private static int pairBehind(Machine one, int left, Machine other, int right, int event) {
            int to = left == BROKEN ? NONE : one.leads(left, event);
            int with = right == BROKEN ? NONE : other.leads(right, event);
            return (to == NONE ? BROKEN : to) * WIDTH + (with == NONE ? BROKEN : with);
        }

        private void reach(int pair, int from, int event) {
            if (cameFrom[pair] == NONE && count < queue.length) {
                cameFrom[pair] = from;
                cameBy[pair] = event;
                queue[count++] = pair;
            }
        }

        private void tellRow(int pair) {
            int length = 0;
            for (int at = pair; at != 0 && length < row.length; at = cameFrom[at]) {
                length++;
            }
            rowLength = length;
            int at = pair;
            for (int i = length - 1; i >= 0; i--) {
                row[i] = cameBy[at];
                at = cameFrom[at];
            }
        }

        int eventOfRow(int i) {
            if (i == -1) {
                return rowLength;
            }
            return below(i, rowLength) ? row[i] : NONE;
        }
    }

    /** A class's members with their checks and settings. */
    private static final class CheckedClass {
        private static final int CHECK_IS = 0, SET = 2;

        private final int[] counts = new int[MEMBERS];
        private final int[] kinds = new int[MEMBERS * MOST_STEPS];
        private final int[] fields = new int[MEMBERS * MOST_STEPS];
        private final int[] values = new int[MEMBERS * MOST_STEPS];
        private final int[] now = new int[FIELDS];

        int add(int member, int kind, int field, int value) {
            if (counts[member] >= MOST_STEPS) {
                return FULL;
            }
            int at = member * MOST_STEPS + counts[member];
            kinds[at] = kind;
            fields[at] = field;
            values[at] = value;
            counts[member]++;
            return counts[member];
        }

        int size() {
            int sum = 0;
            for (int member = 0; member < MEMBERS; member++) {
                sum += counts[member];
            }
            return sum;
        }

        int clear() {
            int before = size();
            Arrays.fill(counts, 0);
            return before;
        }

        /** A node for each pair of field values; what throws leads nowhere. */
        void fill(Draft draft) {
            draft.clear();
            for (int node = 0; node < VALUES * VALUES; node++) {
                draft.add(true);
            }
            for (int node = 0; node < VALUES * VALUES; node++) {
                for (int member = 0; member < MEMBERS; member++) {
                    now[0] = node / VALUES;
                    now[1] = node % VALUES;
                    if (runs(member)) {
                        draft.lead(node, member, now[0] * VALUES + now[1]);
                    }
                }
            }
        }

        private boolean runs(int member) {
            for (int i = 0; i < counts[member]; i++) {
                int at = member * MOST_STEPS + i;
                boolean same = now[fields[at]] == values[at];
                if (kinds[at] == SET) {
                    now[fields[at]] = values[at];
                } else if (same == (kinds[at] == CHECK_IS)) {
                    return false;
                }
            }
            return true;
        }
    }

    /** A method's ops. */
    private static final class Code {
        private int count;
        private final int[] ops = new int[MOST_OPS];
        private final int[] numbers = new int[MOST_OPS * 3];

        int add(int op, int a, int b, int c) {
            if (count >= MOST_OPS) {
                return FULL;
            }
            ops[count] = op;
            numbers[count * 3] = a;
            numbers[count * 3 + 1] = b;
            numbers[count * 3 + 2] = c;
            return count++;
        }

        int size() {
            return count;
        }

        int clear() {
            int before = count;
            count = 0;
            return before;
        }

        int opAt(int place) {
            return below(place, count) ? ops[place] : RETURN;
        }

        int number(int place, int which) {
            return below(place, count) ? numbers[place * 3 + which] : 0;
        }
    }

    /**
     * A shape as one int (a holder for each variable, who is in the bag, who there is, state, place),
     * and the shapes that were found, nearest first, with what follows each of them.
     */
    private static final class Shapes {
        static final int NOBODY = 0, CHOSEN = 1, LIKELY = 2, OTHER = 3;
        private static final int BAG_AT = 12, EXISTS_AT = 15, STATE_AT = 17, PLACE_AT = 22;
        private static final int BAG_BITS = 7 << BAG_AT, STATE_BITS = 31 << STATE_AT;
        static final int FOLLOWERS = 3;
        private static final int SLOT_BITS = 12, SLOTS = 1 << SLOT_BITS;
        // Marks of a shape: its op breaks; it leads to a nearest break; it stands on the way.
        private static final int BREAKS = 1, LEADS = 2, ON_WAY = 4;

        private final int[] slots = new int[SLOTS];
        private final int[] found = new int[MOST_SHAPES];
        private final int[] depths = new int[MOST_SHAPES];
        private final int[] marks = new int[MOST_SHAPES];
        private final int[] followers = new int[MOST_SHAPES * FOLLOWERS];
        private final int[] places = new int[MOST_SHAPES];
        private int count;

        /** Only the shape ahead of op 0 is there: nobody, nothing in the bag. */
        void begin() {
            Arrays.fill(slots, 0);
            count = 0;
            indexOf(0, 0);
        }

        int size() {
            return count;
        }

        int shapeAt(int index) {
            return found[index];
        }

        /** Its index, old or new; FULL. */
        private int indexOf(int shape, int depth) {
            int slot = (shape * 0x9E3779B1) >>> (32 - SLOT_BITS);
            for (int tries = 0; tries < SLOTS; tries++) {
                // A slot has an index and one more, so that 0 says that it is free.
                int held = slots[slot];
                if (held == 0) {
                    return insert(shape, depth, slot);
                }
                if (found[held - 1] == shape) {
                    return held - 1;
                }
                slot = (slot + 1) & (SLOTS - 1);
            }
            return FULL;
        }

        private int insert(int shape, int depth, int slot) {
            if (count >= MOST_SHAPES) {
                return FULL;
            }
            found[count] = shape;
            depths[count] = depth;
            marks[count] = 0;
            Arrays.fill(followers, count * FOLLOWERS, (count + 1) * FOLLOWERS, NONE);
            slots[slot] = count + 1;
            return count++;
        }

        /** Whether there was room for a shape behind the one at an index. */
        boolean follow(int index, int which, int shape) {
            int to = indexOf(shape, depths[index] + 1);
            followers[index * FOLLOWERS + which] = to;
            return to != FULL;
        }

        void markBreak(int index) {
            marks[index] |= BREAKS;
        }

        /** How long the way is; 0 if nothing breaks. */
        int findWay() {
            int nearest = nearestBreak();
            if (nearest == NONE) {
                return 0;
            }
            markLeading(nearest);
            marks[0] |= ON_WAY;
            places[0] = placeOf(found[0]);
            int from = 0;
            for (int depth = 0; depth < nearest; depth++) {
                int to = levelEnd(from, depth);
                int least = leastPlaceBehind(from, to);
                markOnWay(from, to, least);
                places[depth + 1] = least;
                from = to;
            }
            return nearest + 1;
        }

        int wayPlace(int i) {
            return places[i];
        }

        private int nearestBreak() {
            for (int i = 0; i < count; i++) {
                if ((marks[i] & BREAKS) != 0) {
                    return depths[i];
                }
            }
            return NONE;
        }

        private void markLeading(int nearest) {
            for (int i = count - 1; i >= 0; i--) {
                boolean leads = depths[i] == nearest && (marks[i] & BREAKS) != 0;
                for (int k = 0; k < FOLLOWERS && depths[i] < nearest; k++) {
                    leads = leads || leadsOn(i, k);
                }
                if (leads) {
                    marks[i] |= LEADS;
                }
            }
        }

        /** Whether a follower is one op further on a way to a nearest break. */
        private boolean leadsOn(int index, int which) {
            int to = followers[index * FOLLOWERS + which];
            return to >= 0 && depths[to] == depths[index] + 1 && (marks[to] & LEADS) != 0;
        }

        private int levelEnd(int from, int depth) {
            int to = from;
            while (to < count && depths[to] == depth) {
                to++;
            }
            return to;
        }

        private int leastPlaceBehind(int from, int to) {
            int least = MOST_OPS;
            for (int i = from; i < to; i++) {
                for (int k = 0; k < FOLLOWERS && (marks[i] & ON_WAY) != 0; k++) {
                    if (leadsOn(i, k)) {
                        least = Math.min(least, placeOf(found[followers[i * FOLLOWERS + k]]));
                    }
                }
            }
            return least;
        }

        private void markOnWay(int from, int to, int place) {
            for (int i = from; i < to; i++) {
                for (int k = 0; k < FOLLOWERS && (marks[i] & ON_WAY) != 0; k++) {
                    int behind = followers[i * FOLLOWERS + k];
                    if (leadsOn(i, k) && placeOf(found[behind]) == place) {
                        marks[behind] |= ON_WAY;
                    }
                }
            }
        }

        static int holder(int shape, int variable) {
            return (shape >>> (2 * variable)) & 3;
        }

        static int hold(int shape, int variable, int who) {
            return (shape & ~(3 << (2 * variable))) | (who << (2 * variable));
        }

        static boolean inBag(int shape, int who) {
            return ((shape >>> (BAG_AT - 1 + who)) & 1) != 0;
        }

        static boolean isBagEmpty(int shape) {
            return (shape & BAG_BITS) == 0;
        }

        static int putIntoBag(int shape, int who) {
            return who == NOBODY ? shape : shape | (1 << (BAG_AT - 1 + who));
        }

        static int emptyBag(int shape) {
            return shape & ~BAG_BITS;
        }

        static boolean has(int shape, int who) {
            return ((shape >>> (EXISTS_AT - 1 + who)) & 1) != 0;
        }

        static int bring(int shape, int variable, int who) {
            return hold(shape | (1 << (EXISTS_AT - 1 + who)), variable, who);
        }

        static int stateOf(int shape) {
            return (shape & STATE_BITS) >>> STATE_AT;
        }

        static int enter(int shape, int state) {
            return (shape & ~STATE_BITS) | (state << STATE_AT);
        }

        static int placeOf(int shape) {
            return shape >>> PLACE_AT;
        }

        static int moveTo(int shape, int place) {
            return (shape & ((1 << PLACE_AT) - 1)) | (place << PLACE_AT);
        }
    }

    /** Finds all shapes of a method, a kind and a machine, and where they break. */
    private static final class Judge {
        private final Code code;
        private final int kind;
        private final Machine machine;
        private final int[] behind = new int[Shapes.FOLLOWERS];
        private int ways;
        private boolean breaks;

        Judge(Code code, int kind, Machine machine) {
            this.code = code;
            this.kind = kind;
            this.machine = machine;
        }

        /** Whether there was room for all of them. */
        boolean explore(Shapes found) {
            found.begin();
            boolean hasRoom = true;
            for (int i = 0; i < found.size() && i < MOST_SHAPES && hasRoom; i++) {
                ways = 0;
                breaks = false;
                expand(found.shapeAt(i));
                if (breaks) {
                    found.markBreak(i);
                }
                for (int k = 0; k < ways && hasRoom; k++) {
                    hasRoom = found.follow(i, k, behind[k]);
                }
            }
            return hasRoom;
        }

        private void expand(int shape) {
            int place = Shapes.placeOf(shape);
            int a = code.number(place, 0);
            int b = code.number(place, 1);
            int ahead = Shapes.moveTo(shape, place + 1);
            switch (code.opAt(place)) {
                case NEW:
                    make(ahead, a, b, Shapes.NOBODY);
                    break;
                case FROM:
                    makeFrom(ahead, a, b, code.number(place, 2));
                    break;
                case CALL:
                    call(ahead, a, b);
                    break;
                case FORK:
                    go(ahead);
                    go(Shapes.moveTo(shape, a));
                    break;
                case JUMP:
                    go(Shapes.moveTo(shape, a));
                    break;
                case IF:
                    go(Shapes.holder(shape, a) == Shapes.NOBODY ? Shapes.moveTo(shape, b) : ahead);
                    break;
                case RETURN:
                    endRun(shape);
                    break;
                default:
                    moveObjects(ahead, code.opAt(place), a, b);
                    break;
            }
        }

        private void moveObjects(int ahead, int op, int a, int b) {
            switch (op) {
                case COPY:
                    go(Shapes.hold(ahead, a, Shapes.holder(ahead, b)));
                    break;
                case DROP:
                    go(Shapes.hold(ahead, a, Shapes.NOBODY));
                    break;
                case PUT:
                    go(Shapes.putIntoBag(ahead, Shapes.holder(ahead, a)));
                    break;
                case GET:
                    get(ahead, a);
                    break;
                default:
                    go(Shapes.emptyBag(ahead));
                    break;
            }
        }

        private void go(int shape) {
            if (ways < behind.length) {
                behind[ways++] = shape;
            }
        }

        private void makeFrom(int ahead, int variable, int made, int from) {
            int owner = Shapes.holder(ahead, from);
            if (owner == Shapes.NOBODY) {
                endRun(ahead);
            } else {
                make(ahead, variable, made, owner);
            }
        }

        private void make(int ahead, int variable, int made, int owner) {
            go(Shapes.hold(ahead, variable, Shapes.OTHER));
            if (Shapes.has(ahead, Shapes.CHOSEN)) {
                return;
            }
            if (machine.seesOwners && !Shapes.has(ahead, Shapes.LIKELY)) {
                go(Shapes.bring(ahead, variable, Shapes.LIKELY));
            }
            if (made == kind && canBeChosen(ahead, owner)) {
                go(Shapes.bring(ahead, variable, Shapes.CHOSEN));
            }
        }

        private boolean canBeChosen(int ahead, int owner) {
            if (!machine.seesOwners) {
                return true;
            }
            return owner == (Shapes.has(ahead, Shapes.LIKELY) ? Shapes.LIKELY : Shapes.NOBODY);
        }

        private void call(int ahead, int variable, int member) {
            int called = Shapes.holder(ahead, variable);
            boolean isOwners = called == Shapes.LIKELY && Shapes.has(ahead, Shapes.CHOSEN);
            if (called == Shapes.NOBODY) {
                endRun(ahead);
            } else if (called == Shapes.CHOSEN) {
                takeEvent(ahead, member);
            } else if (isOwners) {
                takeEvent(ahead, MEMBERS + member);
            } else {
                go(ahead);
            }
        }

        private void takeEvent(int ahead, int event) {
            int to = machine.leads(Shapes.stateOf(ahead), event);
            if (to == NONE) {
                breaks = true;
            } else {
                go(Shapes.enter(ahead, to));
            }
        }

        private void get(int ahead, int variable) {
            if (Shapes.isBagEmpty(ahead)) {
                go(Shapes.hold(ahead, variable, Shapes.NOBODY));
            }
            for (int who = Shapes.CHOSEN; who <= Shapes.OTHER; who++) {
                if (Shapes.inBag(ahead, who)) {
                    go(Shapes.hold(ahead, variable, who));
                }
            }
        }

        private void endRun(int shape) {
            if (Shapes.has(shape, Shapes.CHOSEN) && !machine.isEnd(Shapes.stateOf(shape))) {
                breaks = true;
            }
        }
    }

    /** What drawn runs have been counted. */
    private static final class Tally {
        private final int[] made = new int[KINDS];
        private final int[] first = new int[KINDS * MEMBERS];
        private final int[] last = new int[KINDS * MEMBERS];
        private final int[] behind = new int[KINDS * MEMBERS * MEMBERS];

        void addObject(int kind) {
            made[kind]++;
        }

        void addCall(int kind, int before, int member) {
            if (before == NONE) {
                first[kind * MEMBERS + member]++;
            } else {
                behind[(kind * MEMBERS + before) * MEMBERS + member]++;
            }
        }

        void addLast(int kind, int member) {
            last[kind * MEMBERS + member]++;
        }

        int objects(int kind) {
            return made[kind];
        }

        int firsts(int kind, int member) {
            return first[kind * MEMBERS + member];
        }

        int lasts(int kind, int member) {
            return last[kind * MEMBERS + member];
        }

        int pairs(int kind, int a, int b) {
            return behind[(kind * MEMBERS + a) * MEMBERS + b];
        }

        int clear() {
            int sum = 0;
            for (int kind = 0; kind < KINDS; kind++) {
                sum += made[kind];
            }
            Arrays.fill(made, 0);
            Arrays.fill(first, 0);
            Arrays.fill(last, 0);
            Arrays.fill(behind, 0);
            return sum;
        }
    }

    /** Draws runs of a method, counts what is called in them, and sees objects of a kind break. */
    private static final class DrawnRuns {
        private static final int ENDED = -1;

        final Tally tally = new Tally();
        private int kind;
        private int x;
        private int broken;
        private final int[] variables = new int[VARIABLES];
        private int objects;
        private final int[] kinds = new int[RUN_OPS];
        private final int[] owners = new int[RUN_OPS];
        private final int[] states = new int[RUN_OPS];
        private final int[] lastCalls = new int[RUN_OPS];
        private int bagged;
        private final int[] bag = new int[RUN_OPS];

        void begin(int kind, int x) {
            this.kind = kind;
            this.x = x;
            broken = 0;
        }

        int breaks() {
            return broken;
        }

        void runOnce(Code code, Machine machine) {
            Arrays.fill(variables, NONE);
            objects = 0;
            bagged = 0;
            int place = 0;
            for (int ops = 0; ops < RUN_OPS && place != ENDED; ops++) {
                place = perform(code, machine, place);
            }
            if (place == ENDED) {
                endRun(machine);
            }
        }

        private int perform(Code code, Machine machine, int place) {
            int a = code.number(place, 0);
            int b = code.number(place, 1);
            switch (code.opAt(place)) {
                case NEW:
                    make(a, b, NONE);
                    return place + 1;
                case FROM:
                    return makeFrom(a, b, code.number(place, 2)) ? place + 1 : ENDED;
                case CALL:
                    return call(machine, variables[a], b) ? place + 1 : ENDED;
                case FORK:
                    return (drawNumber() & 1) == 1 ? a : place + 1;
                case JUMP:
                    return a;
                case IF:
                    return variables[a] == NONE ? b : place + 1;
                case RETURN:
                    return ENDED;
                default:
                    moveObjects(code.opAt(place), a, b);
                    return place + 1;
            }
        }

        private void moveObjects(int op, int a, int b) {
            switch (op) {
                case COPY:
                    variables[a] = variables[b];
                    break;
                case DROP:
                    variables[a] = NONE;
                    break;
                case PUT:
                    putIntoBag(variables[a]);
                    break;
                case GET:
                    variables[a] = drawFromBag();
                    break;
                default:
                    bagged = 0;
                    break;
            }
        }

        private int drawNumber() {
            x = x * 1103515245 + 12345;
            return x >>> 16;
        }

        private int drawFromBag() {
            if (bagged <= 0) {
                return NONE;
            }
            return bagged == 1 ? bag[0] : bag[drawNumber() % bagged];
        }

        private void putIntoBag(int object) {
            for (int i = 0; i < bagged; i++) {
                if (bag[i] == object) {
                    return;
                }
            }
            if (object != NONE && bagged < RUN_OPS) {
                bag[bagged++] = object;
            }
        }

        private void make(int variable, int made, int owner) {
            // A run has no more objects than ops, so that there is always room.
            if (objects < RUN_OPS) {
                kinds[objects] = made;
                owners[objects] = owner;
                states[objects] = 0;
                lastCalls[objects] = NONE;
                variables[variable] = objects++;
                tally.addObject(made);
            }
        }

        private boolean makeFrom(int variable, int made, int from) {
            int owner = variables[from];
            if (owner == NONE) {
                return false;
            }
            make(variable, made, owner);
            return true;
        }

        private boolean call(Machine machine, int object, int member) {
            if (object == NONE) {
                return false;
            }
            tally.addCall(kinds[object], lastCalls[object], member);
            lastCalls[object] = member;
            takeEvent(machine, object, member);
            for (int i = 0; i < objects && machine.seesOwners; i++) {
                if (owners[i] == object) {
                    takeEvent(machine, i, MEMBERS + member);
                }
            }
            return true;
        }

        private boolean isWatched(int object) {
            return kinds[object] == kind && states[object] != NONE;
        }

        private void takeEvent(Machine machine, int object, int event) {
            if (isWatched(object)) {
                states[object] = machine.leads(states[object], event);
                if (states[object] == NONE) {
                    broken++;
                }
            }
        }

        private void endRun(Machine machine) {
            for (int i = 0; i < objects; i++) {
                if (lastCalls[i] != NONE) {
                    tally.addLast(kinds[i], lastCalls[i]);
                }
                if (isWatched(i) && !machine.isEnd(states[i])) {
                    broken++;
                }
            }
        }
    }
}
