import java.lang.management.ManagementFactory;
import java.util.Random;

/** No call throws for any arguments in any state, and a full object of dear calls makes next to nothing. */
public final class WildTest {
    private static final int[] EDGES = {Integer.MIN_VALUE, Integer.MIN_VALUE + 1, -1000, -2, -1, 0, 1, 2, 5, 7, 8, 9, 10, 15, 16,
        17, 30, 31, 60, 61, 99, 100, 239, 240, 479, 480, 481, 999, 1000, 1001, 59999, 60000, 239239, 240000,
        Integer.MAX_VALUE - 1, Integer.MAX_VALUE};

    public static void main(String[] args) {
        Random chance = new Random(5);
        for (int object = 0; object < 400; object++) {
            wildCalls(chance, object);
        }
        dearCalls();
        Due.finish("WildTest");
    }

    private static int any(Random chance) {
        return chance.nextInt(3) == 0 ? EDGES[chance.nextInt(EDGES.length)] : chance.nextInt(12);
    }

    private static void wildCalls(Random chance, int object) {
        FreightPaths x = new FreightPaths(any(chance));
        boolean ended = false;
        try {
            for (int call = 0; call < 512; call++) {
                wildCall(x, chance);
            }
            ended = true;
        } catch (RuntimeException e) {
            e.printStackTrace(System.out);
        }
        Due.due("object " + object + " ended", ended, true);
    }

    private static void wildCall(FreightPaths x, Random chance) {
        int a = any(chance);
        int b = any(chance);
        int c = any(chance);
        int d = any(chance);
        switch (chance.nextInt(20)) {
            case 0 -> x.section(a, chance.nextBoolean(), b, c);
            case 1 -> x.tracks(a, b);
            case 2 -> x.headway(a);
            case 3 -> x.works(a, b, c);
            case 4 -> x.bid(a, b, c, d);
            case 5 -> x.bid(chance.nextInt(6000) * 10, chance.nextInt(240) * 1000 + chance.nextInt(240), c, d);
            case 6 -> x.link(a, b);
            case 7 -> x.find(a);
            case 8, 9 -> x.give(a);
            case 10 -> x.drop(a);
            case 11 -> x.round();
            case 12 -> x.best();
            case 13 -> x.path(a, b);
            case 14 -> x.why(a);
            case 15 -> x.delay(a, b, c);
            case 16 -> x.ran(a, b);
            case 17 -> x.blame(a, b);
            case 18 -> x.balance(a);
            default -> x.count(a);
        }
    }

    private static void dearCalls() {
        com.sun.management.ThreadMXBean made = (com.sun.management.ThreadMXBean) ManagementFactory.getThreadMXBean();
        long thread = Thread.currentThread().getId();
        FreightPaths x = new FreightPaths(8);
        for (int i = 0; i < 5; i++) {
            x.bid(i * 10000 + (i % 2 == 0 ? 700 : 7000), 50 + i, 100 + i, i);
        }
        x.best();
        x.ran(0, 0);
        long before = made.getThreadAllocatedBytes(thread);
        for (int i = 0; i < 100; i++) {
            x.best();
            x.round();
            x.find(i % 5);
            x.ran(i % 5, 1);
            x.why(0);
        }
        long bytes = made.getThreadAllocatedBytes(thread) - before;
        Due.due("500 dear calls made " + bytes + " bytes", bytes < 100000, true);
    }
}
