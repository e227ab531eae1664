import java.util.Random;

/** Calls of all sorts in any order: none throws, and the same calls answer the same. */
public final class WildTest {
    private static final Support CHECK = new Support("WildTest");
    private static final int[] EDGES = {Integer.MIN_VALUE, Integer.MIN_VALUE + 1, -10, -3, -2, -1, 11, 12, 13, 23, 24,
        25, 31, 32, 33, 100, 101, 127, 128, 129, Integer.MAX_VALUE - 1, Integer.MAX_VALUE};

    private static int number(Random random, int usual) {
        return random.nextInt(12) == 0 ? EDGES[random.nextInt(EDGES.length)] : random.nextInt(usual);
    }

    private static int bytes(Random random) {
        String all = "aabbc(()|*+?.' ";
        int four = 0;
        for (int i = 0; i < 4; i++) {
            four = (four << 8) | (random.nextInt(200) == 0 ? random.nextInt(256) : all.charAt(random.nextInt(15)));
        }
        return four;
    }

    private static int call(ProtocolMachines x, Random random) {
        int m = number(random, 4);
        int k = number(random, 4);
        switch (random.nextInt(24)) {
            case 0: return x.feed(bytes(random), bytes(random), bytes(random), bytes(random));
            case 1: return x.cut(number(random, 20));
            case 2: return x.read();
            case 3: return x.feed(0x61622A63, 0x27202020, 0x20202020, 0x20202020) + x.read();
            case 4: return x.states(m);
            case 5: return x.next(m, number(random, 6), number(random, 24));
            case 6: return x.ends(m, number(random, 6));
            case 7: return x.sees(m);
            case 8: return x.compare(m, k);
            case 9: return x.witness(number(random, 5));
            case 10: return x.step(m, number(random, 12), number(random, 3), number(random, 2), number(random, 4));
            case 11: return random.nextInt(10) == 0 ? x.plain(m) : x.infer(m);
            case 12: return random.nextInt(30) == 0 ? x.wipe(m) : x.told(number(random, 10));
            case 13: return x.judge(m, k, number(random, 4));
            case 14: return x.shapes();
            case 15: return x.way(number(random, 10));
            case 16: return x.draw(m, k, number(random, 4), random.nextInt(), number(random, 50));
            case 17: return x.counted(m, number(random, 4), number(random, 12), number(random, 12));
            case 18: return random.nextInt(10) == 0 ? x.forget() : x.told(number(random, 10));
            default: return x.op(m, number(random, 12), number(random, 6), number(random, 4), number(random, 6));
        }
    }

    public static void main(String[] args) {
        for (int seed = 0; seed < 400; seed++) {
            Random one = new Random(seed);
            Random other = new Random(seed);
            ProtocolMachines x = new ProtocolMachines();
            ProtocolMachines y = new ProtocolMachines();
            for (int i = 0; i < 450; i++) {
                CHECK.due("the same of seed " + seed + " at " + i, call(x, one), call(y, other));
            }
        }
        CHECK.finish();
    }
}
