import com.sun.management.ThreadMXBean;
import java.lang.management.ManagementFactory;
import java.util.NoSuchElementException;
import java.util.Random;

/** Any arguments in any state: no call throws but look, as the document says, and all calls of a run find room. */
public final class RobustTest {
    private static final int[] EDGES = {Integer.MIN_VALUE, Integer.MIN_VALUE + 1, -65536, -501, -33, -32, -4, -3, -2, -1,
        0, 1, 2, 3, 4, 5, 6, 7, 8, 9, 19, 20, 21, 24, 25, 31, 32, 35, 36, 63, 64, 100, 499, 500, 501, 4999, 5000, 5001,
        65536, Integer.MAX_VALUE - 1, Integer.MAX_VALUE};
    private static final int CALLS = 31;
    /** 7.3 million fields and elements, of four bytes each. */
    private static final long ROOM = 4 * 7_300_000L;

    private final Check check;
    private final Random random;
    private final Texts texts;
    private final RelayMouse x = new RelayMouse();

    private RobustTest(Check check, long seed) {
        this.check = check;
        this.random = new Random(seed);
        this.texts = new Texts(random);
    }

    public static void main(String[] args) {
        Check check = new Check("RobustTest");
        for (long seed = 1; seed <= 400; seed++) {
            new RobustTest(check, seed).go();
        }
        room(check);
        check.end();
    }

    private int number() {
        return random.nextInt(4) == 0 ? EDGES[random.nextInt(EDGES.length)] : random.nextInt(7);
    }

    private void go() {
        for (int i = 0; i < 512; i++) {
            int call = random.nextInt(CALLS);
            int a = number();
            int b = number();
            int c = number();
            if (random.nextInt(12) == 0) {
                boolean rules = random.nextBoolean();
                String text = rules ? texts.rules() : texts.net();
                call = rules ? 1 : 2;
                a = Check.feed(x, text);
            }
            boolean thrown = false;
            try {
                call(x, call, a, b, c);
            } catch (IndexOutOfBoundsException | NoSuchElementException e) {
                thrown = true;
                check.due("only look throws: " + call + " " + e, call, 12);
                check.due("thrown here: " + e, e.getClass() == IndexOutOfBoundsException.class
                    || e.getClass() == NoSuchElementException.class, true);
            }
            boolean wrong = a < 0 || a >= x.count(0) || b < 0 || b > 3;
            check.due("look " + a + " " + b + " throws", thrown, call == 12 && wrong);
        }
    }

    private static void call(RelayMouse x, int call, int a, int b, int c) {
        switch (call) {
            case 0 -> x.feed(a, b, c, a, b);
            case 1 -> x.rules(a);
            case 2 -> x.net(a);
            case 3 -> x.fault(a);
            case 4 -> x.floor(a, b);
            case 5 -> x.wall(a, b, c > 2);
            case 6 -> x.bell(a);
            case 7 -> x.lift(a, b);
            case 8 -> x.wipe();
            case 9 -> x.tick(a);
            case 10 -> x.run(a);
            case 11 -> x.mouse(a);
            case 12 -> x.look(a, b);
            case 13 -> x.comes(a);
            case 14 -> x.second(a, b);
            case 15 -> x.held(a, Math.min(b, 2), c);
            case 16 -> x.longest(Math.min(a, 2), b, c);
            case 17 -> x.needs(a, Math.min(b, 2), c);
            case 18 -> x.knows(a);
            case 19 -> x.pull(a);
            case 20 -> x.pullRun(a);
            case 21 -> x.relays();
            case 22 -> x.race();
            case 23 -> x.stick(a, b);
            case 24 -> x.stuck();
            case 25 -> x.same(a);
            case 26 -> x.suspects(a, b);
            case 27 -> x.trial(a, b);
            case 28 -> x.keep(a);
            case 29 -> x.restore(a);
            default -> x.count(a);
        }
    }

    /** All calls of a run live in one room: the object and, whichever call is the dearest, 512 of that. */
    private static void room(Check check) {
        ThreadMXBean threads = (ThreadMXBean) ManagementFactory.getThreadMXBean();
        long thread = Thread.currentThread().getId();
        long before = threads.getThreadAllocatedBytes(thread);
        RelayMouse x = new RelayMouse();
        long made = threads.getThreadAllocatedBytes(thread) - before;
        Check.net(x, Texts.GOOD_NETS[3]);
        Check.rules(x, Texts.GOOD_RULES[1]);
        x.stick(1, 1);
        for (int call = 0; call < CALLS; call++) {
            // What the first calls make is partly the machine's own: classes that it loads.
            many(x, call);
            before = threads.getThreadAllocatedBytes(thread);
            many(x, call);
            long more = threads.getThreadAllocatedBytes(thread) - before;
            check.due("bytes made by 512 times call " + call + ": " + more * 32, made + more * 32 <= ROOM, true);
        }
    }

    private static void many(RelayMouse x, int call) {
        for (int i = 0; i < 8; i++) {
            if (call == 1) {
                Check.rules(x, Texts.GOOD_RULES[1]);
                Check.rules(x, Texts.GOOD_RULES[3]);
            } else if (call == 2) {
                Check.net(x, Texts.GOOD_NETS[2]);
                Check.net(x, Texts.GOOD_NETS[3]);
                x.stick(1, 1);
            } else {
                call(x, call, 2, 3, 1);
                call(x, call, 1, 1, 0);
            }
        }
    }
}
