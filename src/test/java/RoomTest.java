import com.sun.management.ThreadMXBean;
import java.lang.management.ManagementFactory;

/** All calls of a run live in one room, so an object and its 512 dearest calls must make little. */
public final class RoomTest {
    private static final Support CHECK = new Support("RoomTest");
    private static final ThreadMXBean THREADS = (ThreadMXBean) ManagementFactory.getThreadMXBean();

    private static long made() {
        return THREADS.getThreadAllocatedBytes(Thread.currentThread().getId());
    }

    private static int use(int calls) {
        ProtocolMachines x = new ProtocolMachines();
        int sum = Support.rule(x, "(a|b|a'|b')*c?") + Support.rule(x, "a?b?c?d?e?f?g?h?i?j?k?l?");
        for (int variable = 0; variable < 6; variable++) {
            sum += x.op(0, 5, 2 * variable + 2, 0, 0) + x.op(0, 0, variable, 0, 0);
        }
        for (int variable = 0; variable < 6; variable++) {
            sum += x.op(0, 8, variable, 0, 0) + x.op(0, 9, 5 - variable, 0, 0);
        }
        sum += x.op(0, 6, 0, 0, 0);
        for (int i = 0; i < calls; i++) {
            switch (i % 4) {
                case 0:
                    sum += x.judge(0, 0, i / 4 % 2);
                    break;
                case 1:
                    sum += x.draw(0, 0, i / 4 % 2, i, 100);
                    break;
                case 2:
                    sum += x.compare(0, 1) + x.infer(0);
                    break;
                default:
                    sum += Support.rule(x, ".*|(a|b)*a......");
                    break;
            }
        }
        return sum;
    }

    public static void main(String[] args) {
        use(40);
        long before = made();
        use(0);
        long one = made() - before;
        before = made();
        use(272);
        long all = made() - before;
        System.out.println("an object: " + one + " bytes; with 476 dear calls: " + all + " bytes");
        CHECK.due("an object is small", one < 60_000 ? 1 : 0, 1);
        CHECK.due("its calls make little more", all < 400_000 ? 1 : 0, 1);
        CHECK.finish();
    }
}
