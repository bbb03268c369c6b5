import java.lang.management.ManagementFactory;
import java.lang.reflect.InvocationTargetException;
import java.lang.reflect.Method;
import java.lang.reflect.Modifier;

/** No call throws, whatever numbers come; no call makes an object; a new object takes little room. */
public final class RoomTest {
    private static final int MOST_BYTES_OF_ONE = 60_000;
    // What the JVM itself may put onto the thread, far below an object a call.
    private static final int MOST_BYTES_OF_CALLS = 2_000;

    public static void main(String[] args) throws Exception {
        wildCalls();
        room();
        Check.end("RoomTest");
    }

    private static void wildCalls() throws Exception {
        Method[] all = SoManyStairs.class.getDeclaredMethods();
        java.util.Arrays.sort(all, java.util.Comparator.comparing(Method::getName));
        for (int seed = 0; seed < 300; seed++) {
            Draws draws = new Draws(seed);
            SoManyStairs x = new SoManyStairs();
            for (int i = 0; i < 512; i++) {
                if (draws.oneIn(100)) {
                    Check.feed(x, new Texts(draws, draws.oneIn(2)).house());
                    x.house();
                }
                Method m = all[draws.below(all.length)];
                if (Modifier.isPublic(m.getModifiers()) && !(m.getName().equals("house") && draws.oneIn(2))) {
                    wildCall(x, m, draws);
                }
            }
        }
    }

    private static void wildCall(SoManyStairs x, Method m, Draws draws) throws Exception {
        Object[] arguments = new Object[m.getParameterCount()];
        for (int i = 0; i < arguments.length; i++) {
            arguments[i] = m.getParameterTypes()[i] == int.class ? (Object) wild(draws) : (Object) draws.oneIn(2);
        }
        try {
            m.invoke(x, arguments);
            Check.is("no throw", true);
        } catch (InvocationTargetException e) {
            Check.is(m.getName() + java.util.Arrays.toString(arguments) + " threw " + e.getCause(), false);
        }
    }

    private static int wild(Draws draws) {
        switch (draws.below(4)) {
            case 0:
                return draws.of(Integer.MIN_VALUE, Integer.MAX_VALUE, Integer.MIN_VALUE + 1, Integer.MAX_VALUE - 1, 1 << 30,
                        -(1 << 30), 1 << 16, 1 << 8, 1 << 5, -(1 << 5));
            case 1:
                return draws.from(-3, 30);
            case 2:
                return draws.from(-1100, 1100);
            default:
                return draws.from(0, 4);
        }
    }

    private static void room() {
        com.sun.management.ThreadMXBean threads = (com.sun.management.ThreadMXBean) ManagementFactory.getThreadMXBean();
        long thread = Thread.currentThread().getId();
        long least = Long.MAX_VALUE;
        long leastOfOne = Long.MAX_VALUE;
        // The first rounds load classes; what a call itself makes would be there in each round.
        for (int round = 0; round < 5; round++) {
            long before = threads.getThreadAllocatedBytes(thread);
            SoManyStairs x = new SoManyStairs();
            long made = threads.getThreadAllocatedBytes(thread);
            callAll(x);
            long behind = threads.getThreadAllocatedBytes(thread);
            leastOfOne = Math.min(leastOfOne, made - before);
            least = Math.min(least, behind - made);
        }
        Check.is("a new object takes " + leastOfOne + " bytes", leastOfOne <= MOST_BYTES_OF_ONE);
        Check.is("the calls make " + least + " bytes", least <= MOST_BYTES_OF_CALLS);
        System.out.println("RoomTest: a new object takes " + leastOfOne + " bytes, 400 calls " + least);
    }

    private static void callAll(SoManyStairs x) {
        // draw 7;tenant a on 1 strong 9 heavy 0 owes 30;
        x.feed(0x64726177, 0x20373b74, 0x656e616e, 0x74206120, 0x6f6e2031);
        x.feed(0x20737472, 0x6f6e6720, 0x39206865, 0x61767920, 0x30206f77);
        x.feed(0x65732033, 0x303b2020, 0x20202020, 0x20202020, 0x20202020);
        x.house();
        for (int i = 0; i < 8; i++) {
            x.climb(0, 3, -1, 0);
            x.worth(0, 3, -1, 0, 0);
            x.tenant(0, i);
            x.give(0, 1, 3);
            x.week();
            x.undo();
            x.redo();
            x.fewest(0);
            x.carries(0, 1);
            x.care();
            x.gifts(2);
            x.envies(0);
            x.let();
            x.month(0);
            x.rest();
            x.will(60);
            x.pull();
            x.lever();
            x.odds(0, 4, 2, 0);
            x.poorest();
            x.owing();
            x.law(3);
            x.stride(0, 1);
            x.proxy();
            x.toil();
            x.settle(0, 2);
            x.hover(44);
            x.ruin(60);
            x.team(30, 1);
            x.quarrel();
            x.calm(0);
            x.ladder(0);
            x.spread();
            x.live(1);
            x.lies(0);
            x.chalk(1, true);
            x.tread(1, false);
            x.untell(0);
            x.later(3);
            x.runs(1);
            x.who(2);
            x.ask(0, 3);
            x.image(0);
            x.back(0);
            x.about(i);
            x.fault(0);
            x.end(0);
        }
    }
}
