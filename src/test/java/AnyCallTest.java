import java.lang.management.ManagementFactory;
import java.lang.reflect.Method;
import java.lang.reflect.Modifier;
import java.util.ArrayList;
import java.util.List;
import java.util.Random;

/** Any call with any arguments in any state ends, throws nothing, and takes next to no room. */
public final class AnyCallTest {
    private static final long[] EDGES = {
        Integer.MIN_VALUE, Integer.MIN_VALUE + 1L, -129, -128, -8, -7, -6, -5, -4, -3, -2, -1, 0, 1, 2, 3, 4, 5, 6, 7,
        8, 9, 10, 11, 12, 13, 17, 18, 20, 21, 23, 24, 25, 29, 30, 31, 32, 63, 64, 99, 100, 110, 111, 1023, 1024,
        Integer.MAX_VALUE - 1L, Integer.MAX_VALUE, Long.MIN_VALUE, Long.MAX_VALUE, 1L << 32, (1L << 32) + 5};

    private final Due due = new Due();
    private final List<Method> calls = new ArrayList<>();

    public static void main(String[] args) throws Exception {
        AnyCallTest test = new AnyCallTest();
        for (Method method : CensusNight.class.getDeclaredMethods()) {
            if (Modifier.isPublic(method.getModifiers())) {
                test.calls.add(method);
            }
        }
        test.calls.sort((a, b) -> a.getName().compareTo(b.getName()));
        test.edges();
        for (int seed = 0; seed < 1500; seed++) {
            test.due.part("seed " + seed);
            test.anyCalls(new Random(seed));
        }
        test.roomOfCalls();
        test.due.end();
    }

    private void call(CensusNight census, Method method, Object[] given) {
        try {
            method.invoke(census, given);
            due.yes(method.getName(), true);
        } catch (ReflectiveOperationException thrown) {
            due.yes(method.getName() + java.util.Arrays.toString(given) + " threw " + thrown.getCause(), false);
        }
    }

    private static Object some(Class<?> type, long number) {
        if (type == boolean.class) {
            return (number & 1) != 0;
        }
        if (type == long.class) {
            return number;
        }
        return (int) number;
    }

    /** Each edge in each place, on a new object and on one that is full and closed. */
    private void edges() {
        due.part("edges");
        for (CensusNight census : new CensusNight[] {new CensusNight(), full(false), full(true)}) {
            for (Method method : calls) {
                Class<?>[] types = method.getParameterTypes();
                for (int place = 0; place < types.length; place++) {
                    for (long edge : EDGES) {
                        for (long rest : new long[] {0, 1, -1, 12, Integer.MAX_VALUE, Integer.MIN_VALUE}) {
                            Object[] given = new Object[types.length];
                            for (int i = 0; i < types.length; i++) {
                                given[i] = some(types[i], i == place ? edge : rest);
                            }
                            call(census, method, given);
                        }
                    }
                }
            }
        }
    }

    private static CensusNight full(boolean closed) {
        CensusNight census = new CensusNight();
        for (int d = 0; d < 24; d++) {
            census.door(d % 6, d % 4, 1023);
            census.row(d % 8, d % 4, 12);
            for (int i = 0; i < 12; i++) {
                census.set(d % 8, i, (d * 12 + i) % 115);
            }
            census.truth(d, d % 8);
            census.near(d % 6, d / 4);
            if (d % 3 != 0) {
                census.knock(d, d % 10);
            }
        }
        if (closed) {
            census.fill();
            census.table();
        }
        return census;
    }

    private void anyCalls(Random random) {
        CensusNight census = random.nextInt(3) == 0 ? full(false) : new CensusNight();
        for (int n = 0; n < 512; n++) {
            Method method = calls.get(random.nextInt(calls.size()));
            if (method.getName().equals("fill") && n < 200) {
                continue;
            }
            Class<?>[] types = method.getParameterTypes();
            Object[] given = new Object[types.length];
            for (int i = 0; i < types.length; i++) {
                boolean edge = random.nextInt(6) == 0;
                given[i] = some(types[i], edge ? EDGES[random.nextInt(EDGES.length)] : random.nextInt(8));
            }
            call(census, method, given);
        }
    }

    /** No call but door() makes an object: all calls of a run live in one room. */
    private void roomOfCalls() {
        due.part("room");
        com.sun.management.ThreadMXBean threads =
                (com.sun.management.ThreadMXBean) ManagementFactory.getThreadMXBean();
        long self = Thread.currentThread().getId();
        CensusNight census = full(true);
        quietCalls(census);
        long before = threads.getThreadAllocatedBytes(self);
        for (int n = 0; n < 1000; n++) {
            quietCalls(census);
        }
        long bytes = threads.getThreadAllocatedBytes(self) - before;
        due.yes("1000 times all calls took " + bytes + " bytes", bytes < 10000);
    }

    private static void quietCalls(CensusNight census) {
        census.door(0, 0, 0);
        census.near(0, 1);
        census.row(0, 0, 12);
        census.set(0, 0, 'k');
        census.copy(0, 0, 0, 1, 5);
        census.element(0, 0);
        census.show(1, 3);
        census.holds(1);
        census.blockIn(1);
        census.law(0);
        census.fault();
        census.truth(0, 0);
        census.paper(0);
        census.knock(0, 0);
        census.proxy(0, 0);
        census.twice(1, 0, 2, 0);
        census.fill();
        census.from(0);
        census.about(0, 0);
        census.age(0, 0);
        census.count(0, 0, true);
        census.bestHour(0);
        census.cut(24);
        census.walk(0);
        census.second(0, 0);
        census.right(true);
        census.heap();
        census.table();
        census.told(0, 0);
        census.could(0, 0, true);
        census.status(3);
    }
}
