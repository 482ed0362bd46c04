import java.lang.management.ManagementFactory;
import java.lang.reflect.Method;
import java.lang.reflect.Modifier;
import java.util.ArrayList;
import java.util.Arrays;
import java.util.List;
import java.util.Random;

/**
 * Any call with any arguments in any state ends, throws nothing, and takes next to no room.
 * Every run here is a whole one: 512 calls on one object, those that set its stage among them.
 */
public final class AnyCallTest {
    private static final int WHOLE = 512;
    private static final long[] EDGES = {
        Integer.MIN_VALUE, Integer.MIN_VALUE + 1L, -129, -128, -8, -7, -6, -5, -4, -3, -2, -1, 0, 1, 2, 3, 4, 5, 6, 7,
        8, 9, 10, 11, 12, 13, 17, 18, 20, 21, 23, 24, 25, 29, 30, 31, 32, 63, 64, 99, 100, 110, 111, 1023, 1024,
        Integer.MAX_VALUE - 1L, Integer.MAX_VALUE, Long.MIN_VALUE, Long.MAX_VALUE, 1L << 32, (1L << 32) + 5};
    private static final long[] REST = {0, 1, 2, -1, 12, Integer.MAX_VALUE, Integer.MIN_VALUE};
    private static final long MINUTES_FOR_ALL = 15;

    private final Due due = new Due();
    private final List<Method> calls = new ArrayList<>();

    private AnyCallTest() {
        for (Method method : CensusNight.class.getDeclaredMethods()) {
            if (Modifier.isPublic(method.getModifiers())) {
                calls.add(method);
            }
        }
        calls.sort((a, b) -> a.getName().compareTo(b.getName()));
    }

    public static void main(String[] args) {
        endInAnyCase();
        AnyCallTest test = new AnyCallTest();
        for (Stage stage : Stage.values()) {
            test.edges(stage);
            for (int seed = 0; seed < 250; seed++) {
                test.someCalls(stage, seed);
                test.wildCalls(stage, seed);
            }
            test.eachCallAgain(stage);
        }
        test.dearestTables();
        test.roomOfCalls();
        test.due.end();
    }

    /** A call that doesn't end is a failure, not a test that waits for ever. */
    private static void endInAnyCase() {
        Thread watch = new Thread(() -> {
            try {
                Thread.sleep(MINUTES_FOR_ALL * 60_000);
            } catch (InterruptedException woken) {
                return;
            }
            System.out.println("a call doesn't end");
            Runtime.getRuntime().halt(1);
        });
        watch.setDaemon(true);
        watch.start();
    }

    // ---- states

    private enum Stage { NEW, DOORS, FIELD, CLOSED, TABLE }

    /** One object with its calls counted. */
    private final class Run {
        final CensusNight census = new CensusNight();
        int made;

        boolean isWhole() {
            return made >= WHOLE;
        }

        void call(Method method, Object[] given) {
            made++;
            try {
                method.invoke(census, given);
                due.yes(method.getName(), true);
            } catch (ReflectiveOperationException thrown) {
                due.yes("call " + made + ", " + method.getName() + Arrays.toString(given) + " threw " + thrown.getCause(),
                        false);
            }
        }

        void call(String name, long... numbers) {
            for (Method method : calls) {
                if (method.getName().equals(name)) {
                    call(method, given(method, numbers));
                }
            }
        }
    }

    private Run begin(Stage stage) {
        Run run = new Run();
        for (int d = 0; d < 24 && stage != Stage.NEW; d++) {
            run.call("door", d % 6, d % 4, d % 5 == 0 ? 0 : 1023);
        }
        if (stage.compareTo(Stage.FIELD) >= 0) {
            field(run);
        }
        if (stage.compareTo(Stage.CLOSED) >= 0) {
            run.call("fill");
        }
        if (stage == Stage.TABLE) {
            run.call("table");
            due.yes("the stage has a table", run.census.told(6, 4) >= 0);
            run.made++;
        }
        return run;
    }

    private void field(Run run) {
        for (int s = 0; s < 4; s++) {
            run.call("row", s, s, 12);
            for (int i = 0; i < 12; i++) {
                run.call("set", s, i, (s * 37 + i * 23) % 115);
            }
        }
        for (int d = 0; d < 24; d++) {
            run.call("truth", d, d % 4);
            run.call("near", d % 6, d / 4);
            run.call(d % 3 == 0 ? "paper" : "knock", d, d % 10);
        }
        run.call("twice", 1, 0, 2, 0);
        run.call("second", 0, 0);
        run.call("cut", 24);
        run.call("show", 7, 23);
    }

    // ---- arguments

    private static Object[] given(Method method, long[] numbers) {
        Class<?>[] types = method.getParameterTypes();
        Object[] given = new Object[types.length];
        for (int i = 0; i < types.length; i++) {
            given[i] = some(types[i], numbers[i]);
        }
        return given;
    }

    private static Object some(Class<?> type, long number) {
        if (type == boolean.class) {
            return (number & 1) != 0;
        }
        if (type == long.class) {
            return number;
        }
        return (int) number;
    }

    /** Each edge in each place of each call, as many runs as it takes. */
    private void edges(Stage stage) {
        due.part("edges, " + stage);
        Run run = begin(stage);
        for (Method method : calls) {
            for (int place = 0; place < method.getParameterCount(); place++) {
                for (long edge : EDGES) {
                    for (long rest : REST) {
                        long[] numbers = new long[method.getParameterCount()];
                        Arrays.fill(numbers, rest);
                        numbers[place] = edge;
                        run = run.isWhole() ? begin(stage) : run;
                        run.call(method, given(method, numbers));
                    }
                }
            }
        }
    }

    /** Low numbers most of the time, so that few calls are refused. */
    private void someCalls(Stage stage, int seed) {
        due.part("some calls, " + stage + ", seed " + seed);
        Random random = new Random(seed);
        Run run = begin(stage);
        while (!run.isWhole()) {
            Method method = calls.get(random.nextInt(calls.size()));
            if (method.getName().equals("fill") && run.made < WHOLE / 2) {
                method = calls.get(random.nextInt(calls.size()));
            }
            long[] numbers = new long[method.getParameterCount()];
            for (int i = 0; i < numbers.length; i++) {
                numbers[i] = random.nextInt(6) == 0 ? EDGES[random.nextInt(EDGES.length)] : random.nextInt(8);
            }
            run.call(method, given(method, numbers));
        }
    }

    private void wildCalls(Stage stage, int seed) {
        due.part("wild calls, " + stage + ", seed " + seed);
        Random random = new Random(seed);
        Run run = begin(stage);
        while (!run.isWhole()) {
            Method method = calls.get(random.nextInt(calls.size()));
            long[] numbers = new long[method.getParameterCount()];
            for (int i = 0; i < numbers.length; i++) {
                numbers[i] = random.nextLong() >> random.nextInt(64);
            }
            run.call(method, given(method, numbers));
        }
    }

    /** One call again and again, to the end of the run. */
    private void eachCallAgain(Stage stage) {
        for (Method method : calls) {
            for (long number : new long[] {0, 1, 2}) {
                due.part("again and again, " + stage);
                Run run = begin(stage);
                long[] numbers = new long[method.getParameterCount()];
                Arrays.fill(numbers, number);
                while (!run.isWhole()) {
                    run.call(method, given(method, numbers));
                }
            }
        }
    }

    /** Tables for which many sets of cells must be looked at, made and asked to the end of the run. */
    private void dearestTables() {
        String[] tables = {
            "1 2 2 2 2 1 2 2 2 2 1 2 2 2 2 1 1 2 2 2 2 1 2 2", "1 2 2 2 2 1 2 2 2 2 1 2 2 2 2 1 2 2 2 2 2 2 2 2",
            "0 0 0 0 0 0 0 0 0 0 0 0 0 0 0 0 1 1 2 2 0 0 0 2", "0 0 0 0 0 0 0 0 0 0 0 0 0 1 1 0 0 2 0 2 1 0 2 1",
            "1 1 1 1 1 1 1 1 1 1 1 1 1 1 1 1 1 1 1 1 1 1 1 1"};
        for (String table : tables) {
            due.part("table " + table);
            Run run = new Run();
            String law = "k3p2c2";
            run.call("row", 0, 0, 6);
            for (int i = 0; i < 6; i++) {
                run.call("set", 0, i, law.charAt(i));
            }
            run.call("law", 0);
            doorsOf(run, table.split(" "));
            run.call("fill");
            for (int cell = 0; !run.isWhole(); cell = (cell + 1) % 24) {
                run.call(cell % 4 == 3 ? "could" : "table", cell / 4, cell % 4, cell / 4 % 2);
            }
        }
    }

    private static final int[] AGES = {10, 30, 70, -1};

    private void doorsOf(Run run, String[] numbers) {
        for (int block = 0; block < 6; block++) {
            List<Integer> heads = new ArrayList<>();
            for (int band = 0; band < 4; band++) {
                for (int n = Integer.parseInt(numbers[4 * block + band]); n > 0; n--) {
                    heads.add(AGES[band]);
                }
            }
            run.call("door", block, 0, 1);
            run.call("row", 1, 2, heads.size());
            for (int i = 0; i < heads.size(); i++) {
                run.call("set", 1, i, heads.get(i));
            }
            run.call("truth", block, 1);
            run.call("knock", block, 0);
        }
    }

    // ---- room

    /** No call but door(), which is refused in these stages, makes an object: all calls of a run live in one room. */
    private void roomOfCalls() {
        due.part("room");
        com.sun.management.ThreadMXBean threads =
                (com.sun.management.ThreadMXBean) ManagementFactory.getThreadMXBean();
        long self = Thread.currentThread().getId();
        quietCalls(begin(Stage.TABLE).census);
        for (Stage stage : new Stage[] {Stage.DOORS, Stage.FIELD, Stage.CLOSED, Stage.TABLE}) {
            CensusNight[] many = new CensusNight[50];
            for (int n = 0; n < many.length; n++) {
                many[n] = begin(stage).census;
            }
            long before = threads.getThreadAllocatedBytes(self);
            for (CensusNight census : many) {
                quietCalls(census);
                quietCalls(census);
            }
            long bytes = threads.getThreadAllocatedBytes(self) - before;
            due.yes("100 times all calls took " + bytes + " bytes", bytes < 1500);
        }
    }

    private static void quietCalls(CensusNight census) {
        census.door(0, 0, 0);
        census.near(0, 1);
        census.row(0, 0, 12);
        census.set(0, 0, 'k');
        census.copy(0, 0, 0, 1, 5);
        census.element(0, 0);
        census.show(1, 3);
        census.holds(1);
        census.blockIn(1);
        census.law(0);
        census.fault();
        census.truth(0, 0);
        census.paper(0);
        census.knock(0, 0);
        census.proxy(0, 0);
        census.twice(1, 0, 2, 0);
        census.fill();
        census.from(0);
        census.about(0, 0);
        census.age(0, 0);
        census.count(0, 0, true);
        census.bestHour(0);
        census.cut(24);
        census.walk(0);
        census.second(0, 0);
        census.right(true);
        census.heap();
        census.table();
        census.told(0, 0);
        census.could(0, 0, true);
        census.status(3);
    }
}
