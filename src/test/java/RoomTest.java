import java.lang.management.ManagementFactory;
import java.util.Random;

/** What an object makes, it makes in its constructor: all later calls together make nothing. */
public final class RoomTest {
    private static final Due DUE = new Due();
    private static long kept;

    private static final com.sun.management.ThreadMXBean BEAN =
        (com.sun.management.ThreadMXBean) ManagementFactory.getThreadMXBean();

    private static long made() {
        return BEAN.getThreadAllocatedBytes(Thread.currentThread().getId());
    }

    /** The least of several times, since the machine makes something of its own now and then. */
    private static long madeByCalls(int seed) {
        long least = Long.MAX_VALUE;
        for (int time = 0; time < 4; time++) {
            NearSeats x = new NearSeats();
            Random dice = new Random(seed);
            long before = made();
            useAll(x, dice);
            least = Math.min(least, made() - before);
        }
        return least;
    }

    private static long madeByConstructor() {
        long before = made();
        NearSeats x = new NearSeats();
        long after = made();
        kept += x.many(0);
        return after - before;
    }

    /** 512 calls of every kind, the dearest among them. */
    private static void useAll(NearSeats x, Random dice) {
        for (int call = 0; call < 512; call++) {
            int a = dice.nextInt(7), b = dice.nextInt(61), c = dice.nextInt(5);
            kept += first(x, call % 17, a, b, c);
            kept += second(x, call % 18, a, b, c);
        }
    }

    private static long first(NearSeats x, int kind, int a, int b, int c) {
        switch (kind) {
            case 0: return x.home(b, 60 - b, 1 + c);
            case 1: return x.church(c % 3, b, b, b % 15);
            case 2: return x.land(a, 2, 0, b);
            case 3: return x.ofHome(a, 2);
            case 4: return x.ofChurch(c, 2);
            case 5: return x.bar(a, c, b < 20);
            case 6: return x.seats(c, b % 20);
            case 7: return x.toll(b);
            case 8: return x.far(b, b, c);
            case 9: return x.miles();
            case 10: return x.few();
            case 11: return x.weight(c);
            case 12: return x.line(a);
            case 13: return x.check(0, 2, 0, b);
            case 14: return x.family(a - 1);
            case 15: return x.even(a % 2);
            default: return x.border(c, a, b % 3);
        }
    }

    private static long second(NearSeats x, int kind, int a, int b, int c) {
        switch (kind) {
            case 0: return x.who(b, b);
            case 1: return x.place(b, b);
            case 2: return x.move(c);
            case 3: return x.open(b % 32);
            case 4: return x.best(c);
            case 5: return x.sheet(a, c, b);
            case 6: return x.lose(b == 0 ? a : 9);
            case 7: return x.put(a, b, 104);
            case 8: return x.cell(a, b, c);
            case 9: return x.copy(a, 0, a, 1, b - 1);
            case 10: return x.tell(c);
            case 11: return x.ring(c);
            case 12: return x.as(c, a);
            case 13: return x.trace();
            case 14: return x.fault();
            case 15: return x.many(a);
            case 16: return x.family(-1);
            default: return x.even(1);
        }
    }

    public static void main(String[] args) {
        useAll(new NearSeats(), new Random(1));
        madeByConstructor();
        long bytes = madeByConstructor();
        DUE.holds("an object takes " + bytes + " bytes, some", bytes > 0);
        DUE.holds("an object takes " + bytes + " bytes, few", bytes < 8000);
        for (int seed = 0; seed < 50; seed++) {
            DUE.is("bytes that calls make, seed " + seed, madeByCalls(seed), 0);
        }
        System.out.println("an object takes " + bytes + " bytes; the answers' sum is " + kept);
        DUE.end();
    }
}
