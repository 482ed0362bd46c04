import java.util.ArrayList;
import java.util.Arrays;
import java.util.List;
import java.util.StringJoiner;

/**
 * The class and the plain census side by side: each call is put to both, and the answers compared.
 * No object of the class is used for more than the document's 512 calls.
 */
final class Pair {
    private static final int MOST_CALLS = 512;

    static final String[] CALLS = {
        "door", "near", "row", "set", "copy", "element", "show", "holds", "blockIn", "law", "fault", "truth",
        "paper", "knock", "proxy", "twice", "fill", "from", "about", "age", "count", "bestHour", "cut", "walk",
        "second", "right", "heap", "table", "told", "could", "status"};

    private record Made(String name, long[] given) {
    }

    private final PlainCensus plain = new PlainCensus();
    private final List<Made> run = new ArrayList<>();
    private final Due due;
    private CensusNight real = new CensusNight();
    private int used;

    Pair(Due due) {
        this.due = due;
    }

    /** How many calls the object may still be used for. */
    int left() {
        return MOST_CALLS - used;
    }

    long call(String name, long... given) {
        run.add(new Made(name, given.clone()));
        return compare(name, given);
    }

    /** A question changes nothing, so it isn't made again on the next object. */
    private void ask(String name, long... given) {
        if (left() <= 0) {
            real = new CensusNight();
            used = 0;
            for (Made made : run) {
                put(made.name, made.given);
            }
        }
        compare(name, given);
    }

    private long put(String name, long[] given) {
        if (left() <= 0) {
            throw new IllegalStateException("more than " + MOST_CALLS + " calls");
        }
        used++;
        long[] a = Arrays.copyOf(given, 5);
        return callReal(name, (int) a[0], (int) a[1], (int) a[2], a);
    }

    private long compare(String name, long[] given) {
        long got = put(name, given);
        long[] a = Arrays.copyOf(given, 5);
        long want = callPlain(name, (int) a[0], (int) a[1], (int) a[2], a);
        if (got != want) {
            StringJoiner text = new StringJoiner(", ", name + "(", ")");
            for (long x : given) {
                text.add(Long.toString(x));
            }
            due.eq(text.toString(), got, want);
        } else {
            due.eq(name, got, want);
        }
        return want;
    }

    /** Everything that can be asked without a change, of as many objects as it takes. */
    void compareAll() {
        for (int what = -1; what <= 21; what++) {
            ask("status", what);
        }
        for (int d = -1; d <= 24; d++) {
            ask("from", d);
            for (int i = -1; i <= 12; i++) {
                ask("about", d, i);
                ask("age", d, i);
            }
        }
        for (int r = -1; r <= 7; r++) {
            ask("walk", r);
            ask("bestHour", r);
            for (int c = -1; c <= 5; c++) {
                ask("count", r, c, 0);
                ask("count", r, c, 1);
                ask("told", r, c);
                ask("could", r, c, 0);
                ask("could", r, c, 1);
            }
        }
        for (int s = -1; s <= 8; s++) {
            ask("holds", s);
            for (int i = -1; i <= 30; i++) {
                ask("element", s, i);
            }
        }
        ask("right", 0);
        ask("right", 1);
        ask("heap");
        ask("fault");
    }

    private long callReal(String name, int x, int y, int z, long[] a) {
        return switch (name) {
            case "door" -> real.door(x, y, z);
            case "near" -> real.near(x, y);
            case "row" -> real.row(x, y, z);
            case "set" -> real.set(x, y, a[2]);
            case "copy" -> real.copy(x, y, z, (int) a[3], (int) a[4]);
            case "element" -> real.element(x, y);
            case "show" -> real.show(x, y);
            case "holds" -> real.holds(x);
            case "blockIn" -> real.blockIn(x);
            case "law" -> real.law(x);
            case "fault" -> real.fault();
            case "truth" -> real.truth(x, y);
            case "paper" -> real.paper(x);
            case "knock" -> real.knock(x, y);
            case "proxy" -> real.proxy(x, y);
            case "twice" -> real.twice(x, y, z, (int) a[3]);
            case "fill" -> real.fill();
            case "from" -> real.from(x);
            case "about" -> real.about(x, y);
            case "age" -> real.age(x, y);
            case "count" -> real.count(x, y, (z & 1) != 0);
            case "bestHour" -> real.bestHour(x);
            case "cut" -> real.cut(x);
            case "walk" -> real.walk(x);
            case "second" -> real.second(x, y);
            case "right" -> real.right((x & 1) != 0);
            case "heap" -> real.heap();
            case "table" -> real.table();
            case "told" -> real.told(x, y);
            case "could" -> real.could(x, y, (z & 1) != 0);
            case "status" -> real.status(x);
            default -> throw new IllegalArgumentException(name);
        };
    }

    private long callPlain(String name, int x, int y, int z, long[] a) {
        return switch (name) {
            case "door" -> plain.door(x, y, z);
            case "near" -> plain.near(x, y);
            case "row" -> plain.row(x, y, z);
            case "set" -> plain.set(x, y, a[2]);
            case "copy" -> plain.copy(x, y, z, (int) a[3], (int) a[4]);
            case "element" -> plain.element(x, y);
            case "show" -> plain.show(x, y);
            case "holds" -> plain.holds(x);
            case "blockIn" -> plain.blockIn(x);
            case "law" -> plain.law(x);
            case "fault" -> plain.fault();
            case "truth" -> plain.truth(x, y);
            case "paper" -> plain.paper(x);
            case "knock" -> plain.knock(x, y);
            case "proxy" -> plain.proxy(x, y);
            case "twice" -> plain.twice(x, y, z, (int) a[3]);
            case "fill" -> plain.fill();
            case "from" -> plain.from(x);
            case "about" -> plain.about(x, y);
            case "age" -> plain.age(x, y);
            case "count" -> plain.count(x, y, (z & 1) != 0);
            case "bestHour" -> plain.bestHour(x);
            case "cut" -> plain.cut(x);
            case "walk" -> plain.walk(x);
            case "second" -> plain.second(x, y);
            case "right" -> plain.right((x & 1) != 0);
            case "heap" -> plain.heap();
            case "table" -> plain.table();
            case "told" -> plain.told(x, y);
            case "could" -> plain.could(x, y, (z & 1) != 0);
            case "status" -> plain.status(x);
            default -> throw new IllegalArgumentException(name);
        };
    }
}
