/** Each promise by itself: ordinary calls, the edges that the document names, and wrong ones. */
public final class PromisesTest {
    private static final int[] MINIMUM = {Integer.MIN_VALUE, -1};

    private final Due due = new Due();
    private CensusNight x;

    public static void main(String[] args) {
        PromisesTest test = new PromisesTest();
        test.promise01();
        test.promise02();
        test.promise03();
        test.promise04();
        test.promise05();
        test.promise06();
        test.promise07();
        test.promise08();
        test.promise09();
        test.promise10();
        test.promise11();
        test.promise12();
        test.promise13();
        test.promise14();
        test.promise15();
        test.promise16();
        test.promise17();
        test.promise18();
        test.promise19();
        test.promise20();
        test.promise21();
        test.promise22();
        test.promise23();
        test.promise24();
        test.promise25();
        test.promise26();
        test.promise27();
        test.promise28();
        test.promise29();
        test.promise30();
        test.promise31();
        test.promise32();
        test.due.end();
    }

    // ---- how a test sets its stage

    private void start(int promise, String name) {
        due.part("promise " + promise + " " + name);
        x = new CensusNight();
    }

    private void is(String call, long got, long want) {
        due.eq(call, got, want);
    }

    private void rowOf(int s, int sort, long... values) {
        x.row(s, sort, values.length);
        for (int i = 0; i < values.length; i++) {
            x.set(s, i, values[i]);
        }
    }

    private int lawOf(String text) {
        x.row(7, 0, text.length());
        for (int i = 0; i < text.length(); i++) {
            x.set(7, i, text.charAt(i));
        }
        return x.law(7);
    }

    /** A door at which somebody is always in, with these heads; shelf 6 is used. */
    private int home(int block, int like, long... ages) {
        int d = x.door(block, like, 1023);
        rowOf(6, 2, ages);
        x.truth(d, 6);
        return d;
    }

    private int knocked(int block, long... ages) {
        int d = home(block, 0, ages);
        x.knock(d, 0);
        return d;
    }

    /** Doors of a block whose heads make a row of the table. */
    private void tableRow(int block, int young, int grown, int old, int untold) {
        int[] numbers = {young, grown, old, untold};
        long[] ages = {10, 30, 70, -1};
        for (int band = 0; band < 4; band++) {
            for (int left = numbers[band]; left > 0; left -= 12) {
                long[] heads = new long[Math.min(left, 12)];
                java.util.Arrays.fill(heads, ages[band]);
                knocked(block, heads);
            }
        }
    }

    /** Asks for a refusal and sees that just its number grew. */
    private void refused(String call, long got, int want, int before) {
        is(call, got, want);
        is("status(" + (10 - want) + ") after " + call, x.status(10 - want), before + 1);
    }

    // ---- the promises

    private void promise01() {
        start(1, "new");
        is("NONE", CensusNight.NONE, -1);
        for (int what = 0; what <= 9; what++) {
            is("status(" + what + ")", x.status(what), 0);
        }
        for (int what = 11; what <= 17; what++) {
            is("status(" + what + ")", x.status(what), 0);
        }
        for (int a = 0; a < 6; a++) {
            is("holds", x.holds(a), -1);
            is("walk", x.walk(a), -1);
            for (int b = 0; b < a; b++) {
                is("near", x.near(a, b), 1);
            }
        }
        is("holds(6)", x.holds(6), -1);
        is("holds(7)", x.holds(7), -1);
        is("law k", x.status(18), 3);
        is("law p", x.status(19), 2);
        is("law c", x.status(20), 3);
        is("fault", x.fault(), -1);
    }

    private void promise02() {
        start(2, "door");
        is("door", x.door(0, 0, 0), 0);
        is("door", x.door(5, 3, 1023), 1);
        refused("block -1", x.door(-1, 9, -1), -1, 0);
        refused("block 6", x.door(6, 0, 0), -1, 1);
        refused("like -1", x.door(0, -1, 0), -6, 0);
        refused("like 4", x.door(0, 4, 0), -6, 1);
        refused("hours -1", x.door(0, 0, -1), -6, 2);
        refused("hours 1024", x.door(0, 0, 1024), -6, 3);
        for (int d = 2; d < 24; d++) {
            is("door", x.door(d % 6, d % 4, d), d);
        }
        refused("a 25th", x.door(0, 0, 0), -7, 0);
        refused("a 25th that is wrong", x.door(0, 4, 0), -6, 4);
        refused("a 25th of nobody", x.door(6, 4, 0), -1, 2);
        is("doors", x.status(0), 24);
        x.fill();
        refused("closed ahead of room", x.door(0, 0, 0), -6, 5);
    }

    private void promise03() {
        start(3, "near");
        is("near", x.near(2, 4), 1);
        is("near again", x.near(2, 4), 0);
        is("near the other way", x.near(4, 2), 0);
        refused("one block", x.near(3, 3), -6, 0);
        refused("no block", x.near(6, 6), -1, 0);
        refused("no block", x.near(-1, 0), -1, 1);
        refused("no block", x.near(0, Integer.MAX_VALUE), -1, 2);
        x.fill();
        is("near when closed", x.near(0, 5), 1);
    }

    private void promise04() {
        start(4, "row");
        is("row", x.row(0, 0, 0), 1);
        is("row", x.row(7, 3, 30), 1);
        is("holds", x.holds(7), 103);
        x.set(7, 29, 5);
        is("a new row", x.row(7, 3, 30), 1);
        is("its elements are 0", x.element(7, 29), 0);
        refused("shelf", x.row(8, 9, -1), -1, 0);
        refused("shelf", x.row(-1, 0, 1), -1, 1);
        refused("size", x.row(0, 9, -1), -4, 0);
        refused("sort", x.row(0, 4, 31), -6, 0);
        refused("sort", x.row(0, -1, 1), -6, 1);
        refused("room", x.row(0, 0, 31), -7, 0);
        is("nothing changed", x.holds(0), 100);
        x.door(1, 0, 0);
        x.show(1, 0);
        is("in place of a door", x.row(1, 1, 2), 1);
        is("holds", x.holds(1), 101);
    }

    private void promise05() {
        start(5, "set");
        long v = 0x1122334455667788L;
        long[] kept = {(byte) 0x88, 0x7788, 0x55667788, v};
        for (int sort = 0; sort < 4; sort++) {
            x.row(sort, sort, 3);
            is("set", x.set(sort, 2, v), 1);
            is("element", x.element(sort, 2), kept[sort]);
            is("set", x.set(sort, 0, 0x8000000080008080L), 1);
        }
        is("byte", x.element(0, 0), -128);
        is("short", x.element(1, 0), (short) 0x8080);
        is("int", x.element(2, 0), (int) 0x80008080L);
        is("long", x.element(3, 0), 0x8000000080008080L);
        x.door(0, 0, 0);
        x.show(4, 0);
        refused("shelf", x.set(8, -1, 0), -1, 0);
        refused("door", x.set(4, -1, 0), -2, 0);
        refused("nothing", x.set(5, -1, 0), -3, 0);
        refused("below", x.set(0, -1, 7), -5, 0);
        refused("beyond", x.set(0, 3, 7), -5, 1);
        refused("beyond", x.set(0, Integer.MIN_VALUE, 7), -5, 2);
    }

    private void promise06() {
        start(6, "copy");
        rowOf(0, 2, 1, 2, 3, 4, 5);
        rowOf(1, 2, 0, 0, 0);
        is("copy", x.copy(0, 1, 2, 0, 3), 1);
        is("element", x.element(1, 0), 3);
        is("element", x.element(1, 2), 5);
        is("over itself upwards", x.copy(0, 0, 0, 1, 4), 1);
        long[] up = {1, 1, 2, 3, 4};
        for (int i = 0; i < 5; i++) {
            is("element", x.element(0, i), up[i]);
        }
        is("over itself downwards", x.copy(0, 0, 1, 0, 4), 1);
        long[] down = {1, 2, 3, 4, 4};
        for (int i = 0; i < 5; i++) {
            is("element", x.element(0, i), down[i]);
        }
        is("none at the ends", x.copy(0, 1, 5, 3, 0), 1);
        copyRefusals();
    }

    private void copyRefusals() {
        rowOf(2, 1, 0, 0, 0);
        x.door(0, 0, 0);
        x.show(3, 0);
        refused("shelf", x.copy(8, 3, 0, 0, -1), -1, 0);
        refused("shelf", x.copy(3, -1, 0, 0, -1), -1, 1);
        refused("door and nothing", x.copy(3, 4, 0, 0, -1), -2, 0);
        refused("nothing and door", x.copy(4, 3, 0, 0, -1), -2, 1);
        refused("door and row", x.copy(3, 0, 0, 0, -1), -2, 2);
        refused("two sorts", x.copy(0, 2, 0, 0, -1), -2, 3);
        refused("nothing and row", x.copy(4, 2, 0, 0, -1), -3, 0);
        refused("row and nothing", x.copy(2, 4, 0, 0, -1), -3, 1);
        refused("nothing twice", x.copy(4, 4, 0, 0, -1), -3, 2);
        refused("size", x.copy(0, 1, -1, 0, -1), -4, 0);
        refused("i", x.copy(0, 1, -1, 0, 0), -5, 0);
        refused("j", x.copy(0, 1, 0, -1, 0), -5, 1);
        refused("end of p", x.copy(0, 1, 3, 0, 3), -5, 2);
        refused("end of q", x.copy(0, 1, 0, 1, 3), -5, 3);
        refused("none past the end", x.copy(0, 1, 6, 0, 0), -5, 4);
        refused("wraps around", x.copy(0, 1, 1, 0, Integer.MAX_VALUE), -5, 5);
        refused("wraps around", x.copy(0, 1, Integer.MAX_VALUE, 0, 1), -5, 6);
        is("q stays", x.element(1, 0), 3);
    }

    private void promise07() {
        start(7, "element");
        rowOf(0, 3, Long.MIN_VALUE, Long.MAX_VALUE);
        x.door(0, 0, 0);
        x.show(1, 0);
        is("element", x.element(0, 0), Long.MIN_VALUE);
        is("element", x.element(0, 1), Long.MAX_VALUE);
        is("beyond", x.element(0, 2), 0);
        is("below", x.element(0, -1), 0);
        is("of a door", x.element(1, 0), 0);
        is("of nothing", x.element(2, 0), 0);
        is("of no shelf", x.element(8, 0), 0);
        is("of no shelf", x.element(-1, 0), 0);
        x.row(0, 3, 1);
        is("beyond a shorter row", x.element(0, 1), 0);
        for (int what = 11; what <= 17; what++) {
            is("nothing is refused", x.status(what), 0);
        }
    }

    private void promise08() {
        start(8, "show");
        x.door(3, 0, 0);
        x.door(4, 0, 0);
        is("show", x.show(0, 1), 1);
        is("holds", x.holds(0), 1);
        is("show", x.show(0, 0), 1);
        is("holds", x.holds(0), 0);
        refused("no door", x.show(0, 2), -1, 0);
        refused("no door", x.show(0, -2), -1, 1);
        refused("no shelf", x.show(8, 0), -1, 2);
        refused("no shelf", x.show(-1, -1), -1, 3);
        is("it stays", x.holds(0), 0);
        is("nothing", x.show(0, -1), 0);
        is("holds", x.holds(0), -1);
        rowOf(1, 2, 5);
        is("in place of a row", x.show(1, 0), 1);
        is("no element", x.element(1, 0), 0);
        rowOf(1, 2, 5);
        is("nothing in place of a row", x.show(1, -1), 0);
        is("holds", x.holds(1), -1);
    }

    private void promise09() {
        start(9, "holds");
        for (int d = 0; d < 24; d++) {
            x.door(0, 0, 0);
        }
        x.show(0, 23);
        for (int sort = 0; sort < 4; sort++) {
            x.row(1 + sort, sort, 0);
            is("a row", x.holds(1 + sort), 100 + sort);
        }
        is("a door", x.holds(0), 23);
        is("nothing", x.holds(5), -1);
        is("no shelf", x.holds(8), -1);
        is("no shelf", x.holds(-1), -1);
        is("none is refused", x.status(11), 0);
    }

    private void promise10() {
        start(10, "blockIn");
        x.door(5, 0, 0);
        x.door(2, 0, 0);
        x.show(0, 0);
        x.show(1, 1);
        x.row(2, 0, 0);
        is("block", x.blockIn(0), 5);
        is("block", x.blockIn(1), 2);
        refused("no shelf", x.blockIn(8), -1, 0);
        refused("a row", x.blockIn(2), -2, 0);
        refused("nothing", x.blockIn(3), -3, 0);
    }

    private void promise11() {
        start(11, "law");
        is("law", lawOf("k9p9c9"), 1);
        is("k", x.status(18), 9);
        is("p", x.status(19), 9);
        is("c", x.status(20), 9);
        is("law", lawOf("k1p2c3"), 1);
        is("k", x.status(18), 1);
        is("p", x.status(19), 2);
        is("c", x.status(20), 3);
        long high = 5L << 32;
        rowOf(0, 3, 'k' + high, '4', 'p' - high, '5', 'c', '6' + high);
        is("longs as ints", x.law(0), 1);
        is("k", x.status(18), 4);
        is("p", x.status(19), 5);
        is("c", x.status(20), 6);
        refused("a fault", lawOf("k1p1c1"), -6, 0);
        is("the law stays", x.status(18), 4);
        x.door(0, 0, 1);
        x.show(1, 0);
        refused("no shelf", x.law(8), -1, 0);
        refused("a door", x.law(1), -2, 0);
        refused("nothing", x.law(2), -3, 0);
        lawOf("k2p1c2");
        x.knock(0, 5);
        x.knock(0, 5);
        is("fewer knocks now", lawOf("k1p1c2"), 1);
        is("what was done stands", x.about(0, 4), 2);
        is("no more", x.knock(0, 5), -6);
        x.fill();
        is("also when closed", lawOf("k3p1c2"), 1);
    }

    private void promise12() {
        start(12, "fault");
        is("none yet", x.fault(), -1);
        String[] texts = {"", "k", "k3", "k3p", "k3p2", "k3p2c", "k3p2c33", "K3p2c3", "k0p2c3", "kkp2c3", "k3c2p3",
            "k3p0c3", "k3p2p3", "k3p2c1", "k3p2c:", "k:p2c3", "k3p2c3x"};
        int[] faults = {0, 1, 2, 3, 4, 5, 6, 0, 1, 1, 2, 3, 4, 5, 5, 1, 6};
        for (int i = 0; i < texts.length; i++) {
            is("law " + texts[i], lawOf(texts[i]), -6);
            is("fault of " + texts[i], x.fault(), faults[i]);
        }
        x.law(8);
        x.law(5);
        is("a law() that came to no row", x.fault(), 6);
        lawOf("k3p2c2");
        is("a law", x.fault(), -1);
        rowOf(0, 1, 'k', '1' + 256, 'p');
        x.law(0);
        is("a short isn't cut to a byte", x.fault(), 1);
        x.row(0, 2, 30);
        x.law(0);
        is("the first place", x.fault(), 0);
    }

    private void promise13() {
        start(13, "truth");
        x.door(0, 0, 1023);
        x.door(0, 0, 1023);
        rowOf(0, 3, 0, 110, Long.MIN_VALUE, 111, -1, (7L << 32) + 44);
        is("truth", x.truth(0, 0), 6);
        x.set(0, 0, 99);
        x.knock(0, 0);
        int[] ages = {0, 110, -2, -2, -2, 44};
        for (int i = 0; i < 6; i++) {
            is("age " + i, x.age(0, i), ages[i]);
        }
        rowOf(0, 0, -128, 127, 18);
        is("truth", x.truth(0, 0), 3);
        is("the return stays", x.about(0, 2), 6);
        x.row(1, 0, 13);
        x.show(2, 0);
        refused("no door", x.truth(2, 2), -1, 0);
        refused("no shelf", x.truth(0, 8), -1, 1);
        refused("a door", x.truth(0, 2), -2, 0);
        refused("nothing", x.truth(0, 3), -3, 0);
        refused("room", x.truth(0, 1), -7, 0);
        x.row(1, 0, 12);
        is("12 heads", x.truth(1, 1), 12);
        x.row(1, 0, 0);
        is("none", x.truth(1, 1), 0);
        x.row(1, 0, 13);
        x.fill();
        refused("closed ahead of room", x.truth(0, 1), -6, 0);
    }

    private void promise14() {
        start(14, "paper");
        int whole = home(0, 0, 3, 0, 110);
        int broken = home(0, 0, 3, 4, 111, 5);
        int empty = x.door(0, 0, 0);
        int atOnce = home(0, 0, -1, 5);
        is("whole", x.paper(whole), 3);
        is("broken", x.paper(broken), 2);
        is("nobody lives there", x.paper(empty), 0);
        is("it is whole", x.about(empty, 1), 0);
        is("broken at once", x.paper(atOnce), 0);
        is("it is broken", x.about(atOnce, 1), 1);
        refused("a whole one", x.paper(whole), -6, 0);
        refused("a broken one", x.paper(broken), -6, 1);
        refused("no door", x.paper(4), -1, 0);
        refused("no door", x.paper(-1), -1, 1);
        int proxied = home(0, 0, 7);
        lawOf("k3p1c3");
        x.knock(broken, 0);
        refused("a knock", x.paper(broken), -6, 2);
        x.door(0, 0, 0);
        x.knock(5, 0);
        x.proxy(5, 4);
        is("in place of a proxy", x.paper(5), 0);
        is("return", x.about(5, 0), 1);
        x.fill();
        refused("closed", x.paper(proxied), -6, 3);
    }

    private void promise15() {
        start(15, "knock");
        int d = x.door(0, 2, 0b1000000001);
        rowOf(0, 2, 30, -5);
        x.truth(d, 0);
        is("nobody answers", x.knock(d, 1), 0);
        is("no return", x.about(d, 0), 0);
        is("counted", x.about(d, 4), 1);
        refused("hour", x.knock(d, 10), -6, 0);
        refused("hour", x.knock(d, -1), -6, 1);
        refused("door ahead of hour", x.knock(1, 10), -1, 0);
        is("answered", x.knock(d, 9), 1);
        is("return", x.about(d, 0), 2);
        is("heads", x.about(d, 2), 2);
        is("none told", x.age(d, 1), -2);
        refused("not to be asked", x.knock(d, 9), -6, 2);
        int e = home(0, 0, 5, -1);
        x.paper(e);
        is("at a broken paper", x.knock(e, 3), 1);
        is("it is gone", x.about(e, 1), 0);
        is("all heads", x.about(e, 2), 2);
        int f = x.door(0, 0, 1);
        x.knock(f, 1);
        x.knock(f, 2);
        is("the last one", x.knock(f, 3), 0);
        refused("too many", x.knock(f, 0), -6, 3);
        lawOf("k4p2c3");
        x.proxy(f, 2);
        is("at a proxy", x.knock(f, 5), 0);
        is("it stays", x.about(f, 0), 3);
        int g = x.door(0, 0, 1);
        x.fill();
        refused("closed", x.knock(g, 0), -6, 4);
    }

    private void promise16() {
        start(16, "proxy");
        int d = x.door(0, 0, 0);
        refused("no knock", x.proxy(d, 3), -6, 0);
        x.knock(d, 0);
        refused("one knock", x.proxy(d, 3), -6, 1);
        x.knock(d, 0);
        refused("below 0", x.proxy(d, -1), -6, 2);
        refused("above 12", x.proxy(d, 13), -6, 3);
        refused("no door", x.proxy(1, 13), -1, 0);
        is("12 heads", x.proxy(d, 12), 12);
        is("heads", x.about(d, 2), 12);
        is("no age", x.age(d, 11), -2);
        refused("a proxy", x.proxy(d, 12), -6, 4);
        int e = home(0, 0, 5);
        lawOf("k3p1c3");
        x.knock(e, 0);
        refused("a knock", x.proxy(e, 1), -6, 5);
        int f = x.door(0, 0, 0);
        rowOf(0, 2, 5, -1);
        x.truth(f, 0);
        x.paper(f);
        x.knock(f, 0);
        is("in place of a broken paper", x.proxy(f, 0), 0);
        is("broken no more", x.about(f, 1), 0);
        is("return", x.about(f, 0), 3);
        is("no heads", x.about(f, 2), 0);
        is("a paper may come then", x.paper(f), 1);
        int g = x.door(0, 0, 0);
        x.knock(g, 0);
        x.fill();
        refused("closed", x.proxy(g, 1), -6, 6);
    }

    private void promise17() {
        start(17, "twice");
        int a = knocked(0, 10, 20, 30);
        int b = knocked(1, 10, 20);
        int empty = x.door(0, 3, 0);
        is("the greater door", x.twice(a, 2, b, 0), b);
        is("struck there", x.about(b, 3), 1);
        is("none here", x.about(a, 3), 0);
        is("the other way about", x.twice(b, 1, a, 0), b);
        is("struck", x.about(b, 3), 2);
        is("heads stay", x.about(b, 2), 2);
        is("its age stays", x.age(b, 0), 10);
        refused("struck", x.twice(a, 1, b, 1), -6, 0);
        refused("one door", x.twice(a, 0, a, 1), -6, 1);
        refused("no door", x.twice(9, 0, a, 9), -1, 0);
        refused("no head of one door", x.twice(a, 3, a, 0), -5, 0);
        refused("no head", x.twice(a, -1, b, 0), -5, 1);
        refused("no head", x.twice(a, 0, b, 2), -5, 2);
        refused("no return", x.twice(a, 0, empty, 0), -5, 3);
        int filled = x.door(2, 0, 0);
        int c = knocked(2, 40);
        x.fill();
        is("filled by the nearest", x.from(filled), c);
        refused("filled", x.twice(a, 0, filled, 0), -6, 2);
        is("when closed", x.twice(a, 0, c, 0), c);
        is("what was filled stays", x.about(filled, 3), 0);
        is("struck", x.status(4), 3);
        newReturnHasNoStruck();
    }

    private void newReturnHasNoStruck() {
        x = new CensusNight();
        int a = knocked(0, 10);
        int b = home(0, 0, 10, -1);
        x.paper(b);
        is("struck", x.twice(a, 0, b, 0), b);
        is("counted", x.status(3), 1);
        x.knock(b, 0);
        is("none struck", x.about(b, 3), 0);
        is("none struck", x.status(4), 0);
        is("counted", x.status(3), 3);
    }

    private void promise18() {
        start(18, "fill");
        lawOf("k3p1c3");
        int early = x.door(0, 1, 0);
        int giver = home(0, 1, 5, 6);
        int between = x.door(0, 1, 0);
        int other = home(0, 1, 7);
        int third = x.door(0, 1, 0);
        int fourth = x.door(0, 1, 0);
        int brokenOne = home(0, 2, 5, -1);
        int lonely = x.door(0, 2, 0);
        x.paper(giver);
        x.knock(other, 0);
        x.paper(brokenOne);
        x.twice(giver, 1, other, 0);
        is("fill", x.fill(), 4);
        is("early", x.from(early), giver);
        is("of two alike the lesser", x.from(between), giver);
        is("third", x.from(third), other);
        is("fourth", x.from(fourth), other);
        is("two times", x.about(giver, 5), 2);
        is("two times", x.about(other, 5), 2);
        is("heads", x.about(between, 2), 2);
        is("struck ones are left out", x.about(third, 2), 0);
        is("return", x.about(third, 0), 4);
        is("none to fill it", x.about(lonely, 0), 0);
        is("none", x.from(lonely), -1);
        is("a broken paper stays", x.about(brokenOne, 1), 1);
        refused("closed", x.fill(), -6, 0);
        is("closed", x.status(7), 1);
        fillPassesOver();
    }

    private void fillPassesOver() {
        x = new CensusNight();
        lawOf("k3p1c3");
        int far = knocked(0, 5);
        int proxied = x.door(0, 0, 0);
        x.knock(proxied, 0);
        x.proxy(proxied, 3);
        int brokenOne = home(0, 0, 5, -1);
        x.paper(brokenOne);
        int otherLike = home(0, 1, 5, 6, 7);
        x.paper(otherLike);
        int one = x.door(0, 0, 0);
        int two = x.door(0, 0, 0);
        int three = x.door(0, 0, 0);
        is("two of three", x.fill(), 2);
        is("one", x.from(one), far);
        is("two", x.from(two), far);
        is("three", x.from(three), -1);
        is("a proxy stays", x.about(proxied, 0), 3);
    }

    private void promise19() {
        start(19, "from");
        int a = knocked(0, 1);
        int b = x.door(0, 0, 0);
        is("not yet", x.from(b), -1);
        x.fill();
        is("from", x.from(b), a);
        is("not filled", x.from(a), -1);
        is("no door", x.from(2), -1);
        is("no door", x.from(-1), -1);
        is("none is refused", x.status(11), 0);
    }

    private void promise20() {
        start(20, "about");
        int a = home(0, 0, 5, 6, -1);
        int[] fresh = {0, 0, 0, 0, 0, 0};
        aboutIs(a, fresh);
        x.paper(a);
        aboutIs(a, new int[] {1, 1, 2, 0, 0, 0});
        int b = knocked(1, 5, 6);
        x.twice(a, 0, b, 1);
        int c = x.door(0, 0, 0);
        x.fill();
        aboutIs(b, new int[] {2, 0, 2, 1, 1, 1});
        aboutIs(c, new int[] {4, 0, 1, 0, 0, 0});
        is("another what", x.about(a, 6), -1);
        is("another what", x.about(a, -1), -1);
        is("no door", x.about(3, 0), -1);
        is("no door", x.about(-1, 0), -1);
        is("none is refused", x.status(11), 0);
    }

    private void aboutIs(int d, int[] want) {
        for (int what = 0; what < want.length; what++) {
            is("about(" + d + ", " + what + ")", x.about(d, what), want[what]);
        }
    }

    private void promise21() {
        start(21, "age");
        int a = home(0, 0, 0, 110, -1);
        is("no return", x.age(a, 0), -1);
        x.knock(a, 0);
        is("age", x.age(a, 0), 0);
        is("age", x.age(a, 1), 110);
        is("none told", x.age(a, 2), -2);
        is("beyond", x.age(a, 3), -1);
        for (int wrong : MINIMUM) {
            is("below", x.age(a, wrong), -1);
            is("no door", x.age(wrong, 0), -1);
        }
        is("no door", x.age(1, 0), -1);
        is("none is refused", x.status(15), 0);
    }

    private void promise22() {
        start(22, "count");
        int a = knocked(2, 0, 17, 18, 64, 65, 110, -1, 111);
        int b = x.door(2, 0, 0);
        for (int band = 0; band < 4; band++) {
            is("band " + band, x.count(2, band, true), 2);
            is("another block", x.count(1, band, true), 0);
        }
        int c = knocked(3, 18);
        x.twice(a, 0, c, 0);
        is("struck", x.count(3, 1, true), 0);
        x.fill();
        is("from", x.from(b), a);
        for (int band = 0; band < 4; band++) {
            is("with", x.count(2, band, true), 4);
            is("without", x.count(2, band, false), 2);
        }
        is("no block", x.count(6, 0, true), -1);
        is("no block", x.count(-1, 0, true), -1);
        is("no band", x.count(0, 4, true), -1);
        is("no band", x.count(0, -1, true), -1);
        is("none is refused", x.status(11), 0);
        start(22, "count without filled ones");
        knocked(0, 5, 6, 30);
        x.door(1, 0, 0);
        x.door(0, 0, 0);
        is("filled", x.fill(), 2);
        is("with", x.count(1, 0, true), 2);
        is("without", x.count(1, 0, false), 0);
        is("with", x.count(0, 0, true), 4);
        is("without", x.count(0, 0, false), 2);
    }

    private void promise23() {
        start(23, "bestHour");
        lawOf("k9p1c3");
        is("none yet", x.bestHour(0), 0);
        int a = x.door(0, 0, 0b1000);
        x.knock(a, 0);
        is("hour 0 is worse", x.bestHour(0), 1);
        is("of its like alone", x.bestHour(1), 0);
        x.knock(a, 3);
        is("hour 3", x.bestHour(0), 3);
        int b = x.door(0, 0, 0b100);
        x.knock(b, 2);
        is("of several the least", x.bestHour(0), 2);
        int c = x.door(0, 0, 0b1000);
        x.knock(c, 3);
        is("3 of 4 is above 2 of 3", x.bestHour(0), 3);
        int d = x.door(0, 0, 0);
        x.knock(d, 3);
        is("3 of 5 is below 2 of 3", x.bestHour(0), 2);
        is("no like", x.bestHour(4), -1);
        is("no like", x.bestHour(-1), -1);
        is("none is refused", x.status(16), 0);
    }

    private void promise24() {
        start(24, "cut");
        is("no doors", x.cut(0), 0);
        refused("limit", x.cut(-1), -6, 0);
        refused("limit", x.cut(25), -6, 1);
        int[] work = {1, 2, 0, 3};
        for (int b = 0; b < 4; b++) {
            knocked(b, 5);
            for (int n = 0; n < work[b]; n++) {
                x.door(b, 0, 0);
            }
        }
        refused("too much work", x.cut(2), -6, 2);
        is("none are near", x.cut(24), 4);
        x.near(0, 1);
        x.near(1, 2);
        x.near(2, 3);
        is("all in one", x.cut(6), 1);
        is("two", x.cut(5), 2);
        walksAre(0, 0, 0, 1, -1, -1);
        is("two", x.cut(3), 2);
        walksAre(0, 0, 0, 1, -1, -1);
        cutTakesTheLeastGreatest();
        cutNeedsNearOnesWithin();
        x = new CensusNight();
        for (int b = 5; b >= 0; b--) {
            x.door(b, 0, 0);
        }
        is("six walks", x.cut(24), 6);
        walksAre(0, 1, 2, 3, 4, 5);
    }

    private void cutTakesTheLeastGreatest() {
        x = new CensusNight();
        int[] work = {4, 1, 1, 4};
        for (int b = 0; b < 4; b++) {
            for (int n = 0; n < work[b]; n++) {
                x.door(b, 0, 0);
            }
        }
        x.near(0, 1);
        x.near(1, 2);
        x.near(2, 3);
        is("two walks, 5 and 5", x.cut(9), 2);
        walksAre(0, 0, 1, 1, -1, -1);
        x.near(0, 2);
        x.near(1, 3);
        is("two walks, 5 and 5", x.cut(9), 2);
        walksAre(0, 0, 1, 1, -1, -1);
    }

    private void cutNeedsNearOnesWithin() {
        x = new CensusNight();
        x.door(1, 0, 0);
        x.door(5, 0, 0);
        x.near(1, 3);
        x.near(3, 5);
        is("block 3 has no doors", x.cut(24), 2);
        walksAre(-1, 0, -1, -1, -1, 1);
        knocked(3, 5);
        is("now it leads", x.cut(24), 1);
        is("no work, no limit", x.cut(1), 2);
        walksAre(-1, 0, -1, 0, -1, 1);
    }

    private void walksAre(int... want) {
        for (int b = 0; b < want.length; b++) {
            is("walk(" + b + ")", x.walk(b), want[b]);
        }
    }

    private void promise25() {
        start(25, "walk");
        x.door(1, 0, 0);
        x.door(4, 0, 0);
        is("no cut yet", x.walk(1), -1);
        x.cut(5);
        walksAre(-1, 0, -1, -1, 1, -1);
        x.near(1, 4);
        is("as it was cut", x.walk(4), 1);
        x.cut(0);
        is("a refused one changes nothing", x.walk(4), 1);
        x.cut(2);
        is("the latest", x.walk(4), 0);
        is("no block", x.walk(6), -1);
        is("no block", x.walk(-1), -1);
    }

    private void promise26() {
        start(26, "second");
        knocked(0, 5, 6, 7);
        knocked(1, 5);
        knocked(0, 5);
        rowOf(0, 3, (9L << 32) + 2, 99, 100);
        is("second", x.second(0, 0), 101);
        is("one block", x.status(9), 1);
        is("upper", x.right(false), 505);
        x.show(1, 0);
        rowOf(2, 0, 1);
        rowOf(3, 0, 1, -1);
        rowOf(4, 1, 1, 100);
        refused("no block", x.second(6, 1), -1, 0);
        refused("no shelf", x.second(0, 8), -1, 1);
        refused("a door", x.second(0, 1), -2, 0);
        refused("nothing", x.second(0, 5), -3, 0);
        refused("fewer elements", x.second(0, 2), -5, 0);
        refused("below 0", x.second(0, 3), -6, 0);
        refused("above 99", x.second(0, 4), -6, 1);
        rowOf(3, 0, -1, 1);
        refused("below 0", x.second(0, 3), -6, 2);
        is("the older one stays", x.right(true), 3);
        is("a block without doors", x.second(5, 2), 0);
        is("two blocks", x.status(9), 2);
        rowOf(0, 2, 3, 1);
        is("in place of the older one", x.second(0, 0), 4);
        is("two blocks", x.status(9), 2);
        is("5 times 4 by 4", x.right(false), 5);
        knocked(0, 5, 5);
        is("a later door isn't told of", x.right(false), 7);
        x.fill();
        is("when closed", x.second(1, 0), 3);
    }

    private void promise27() {
        start(27, "right");
        is("upper", x.right(false), 0);
        is("lower", x.right(true), 1);
        int a = knocked(0, 5, 6, 7);
        int b = knocked(1, 5, 6);
        is("no second count", x.right(false), 0);
        is("no second count", x.right(true), 1);
        rowOf(0, 2, 0);
        x.second(0, 0);
        is("none that both tell", x.right(false), 0);
        is("none that both tell", x.right(true), 1);
        rowOf(0, 2, 9);
        x.second(0, 0);
        is("5 times 9 by 3", x.right(false), 15);
        is("5 times 9 by 3", x.right(true), 1);
        rowOf(0, 2, 2);
        x.second(1, 0);
        is("5 times 11 by 5", x.right(false), 11);
        x.twice(a, 0, b, 0);
        is("4 times 11 by 4", x.right(false), 11);
        rowOf(0, 2, 1);
        x.second(0, 0);
        is("4 times 3 by 2", x.right(false), 6);
        rowOf(0, 2, 4);
        x.second(0, 0);
        is("4 times 6 by 4", x.right(false), 6);
        x.door(2, 0, 0);
        rowOf(0, 2, 7);
        x.second(2, 0);
        is("4 times 13 by 4", x.right(false), 13);
        x.fill();
        is("filled: 5 times 13 by 5", x.right(false), 13);
        is("filled: 5 times 13 by 5", x.right(true), 1);
        rowOf(0, 2, 0);
        x.second(1, 0);
        is("5 times 11 by 4", x.right(false), 55);
        is("5 times 11 by 4", x.right(true), 4);
    }

    private void promise28() {
        start(28, "heap of the first door");
        knocked(0, 40);
        is("all of them", x.heap(), 500);
        start(28, "heap");
        is("none", x.heap(), 100);
        int a = knocked(0, 22, 63, 20, 65, -1);
        is("none of 23 to 62", x.heap(), 100);
        knocked(0, 23, 62);
        is("no fives", x.heap(), 0);
        int b = knocked(0, 25);
        is("500 by 3, cut", x.heap(), 166);
        x.twice(a, 0, b, 0);
        is("struck", x.heap(), 0);
        knocked(1, 60, 60, 60);
        is("1500 by 5", x.heap(), 300);
        x.door(1, 0, 0);
        x.fill();
        is("filled, too: 3000 by 8", x.heap(), 375);
    }

    private void promise29() {
        start(29, "table");
        tableRow(0, 1, 0, 0, 5);
        tableRow(1, 4, 0, 0, 4);
        refused("not closed", x.table(), -6, 0);
        x.fill();
        is("four cells", x.table(), 4);
        hiddenAre(0, 3, 4, 7);
        start(29, "a cycle of zeros");
        tableRow(2, 0, 2, 0, 0);
        x.fill();
        refused("none can be", x.table(), -6, 0);
        is("no table", x.told(6, 4), -1);
        start(29, "nothing small");
        tableRow(5, 3, 3, 0, 9);
        x.fill();
        is("none hidden", x.table(), 0);
        start(29, "empty");
        x.fill();
        is("none hidden", x.table(), 0);
        is("sum", x.told(6, 4), 0);
        start(29, "filled ones count");
        knocked(0, 5, 6);
        x.door(0, 0, 0);
        x.fill();
        is("4 in the cell", x.table(), 0);
        is("told", x.told(0, 0), 4);
        smallOnesThatGuardEachOther();
        zerosMayBeHidden();
        fourOthers();
        moreThanFour();
        tableIsMadeAsThingsAre();
    }

    private void smallOnesThatGuardEachOther() {
        start(29, "small ones guard each other");
        tableRow(0, 1, 2, 0, 0);
        tableRow(1, 2, 1, 0, 0);
        x.fill();
        is("no others", x.table(), 4);
        hiddenAre(0, 1, 4, 5);
        start(29, "the first of several sets");
        tableRow(2, 0, 5, 1, 5);
        tableRow(3, 5, 5, 5, 5);
        tableRow(4, 5, 5, 5, 5);
        x.fill();
        is("three others", x.table(), 4);
        // rows of zeros are of no use; but one 0, at (2, 0), may grow
        hiddenAre(8, 10, 12, 14);
    }

    private void fourOthers() {
        start(29, "four others");
        lawOf("k3p2c2");
        tableRow(0, 2, 2, 2, 2);
        tableRow(1, 1, 2, 2, 2);
        tableRow(2, 2, 1, 2, 2);
        tableRow(3, 2, 2, 1, 2);
        tableRow(4, 2, 2, 2, 1);
        x.fill();
        is("four others", x.table(), 8);
        hiddenAre(4, 5, 8, 9, 14, 15, 18, 19);
    }

    private void zerosMayBeHidden() {
        start(29, "zeros");
        tableRow(0, 1, 0, 0, 0);
        tableRow(1, 0, 1, 0, 0);
        x.fill();
        is("two zeros", x.table(), 4);
        hiddenAre(0, 1, 4, 5);
        is("could", x.could(0, 0, false), 0);
        is("could", x.could(0, 0, true), 1);
        is("could", x.could(0, 1, true), 1);
    }

    private void moreThanFour() {
        start(29, "more than four others");
        lawOf("k3p2c2");
        for (int b = 0; b < 5; b++) {
            tableRow(b, b == 0 || b == 4 ? 1 : 2, b == 1 ? 1 : 2, b == 2 ? 1 : 2, b == 3 ? 1 : 2);
        }
        x.fill();
        refused("five rows need one each", x.table(), -6, 0);
    }

    private void tableIsMadeAsThingsAre() {
        start(29, "as things are");
        int a = knocked(0, 30, 30, 30);
        int b = knocked(1, 30, 30, 30);
        x.fill();
        is("none hidden", x.table(), 0);
        x.twice(a, 0, b, 0);
        is("the table stays", x.told(1, 1), 3);
        refused("none now", x.table(), -6, 0);
        is("the older one stays", x.told(1, 1), 3);
        lawOf("k3p2c2");
        is("by another law", x.table(), 0);
        is("told", x.told(1, 1), 2);
        is("could", x.could(1, 1, true), 2);
    }

    private void hiddenAre(int... cells) {
        for (int cell = 0; cell < 24; cell++) {
            int at = cell;
            boolean want = java.util.Arrays.stream(cells).anyMatch(c -> c == at);
            is("hidden " + cell, x.told(cell / 4, cell % 4) == -2 ? 1 : 0, want ? 1 : 0);
        }
    }

    private void promise30() {
        start(30, "told");
        tableRow(0, 1, 7, 0, 5);
        tableRow(5, 4, 0, 8, 4);
        is("no table", x.told(0, 0), -1);
        x.fill();
        is("not made yet", x.told(0, 0), -1);
        is("hidden", x.table(), 4);
        is("hidden", x.told(0, 0), -2);
        is("told", x.told(5, 2), 8);
        is("told", x.told(3, 3), 0);
        is("row", x.told(0, 4), 13);
        is("row", x.told(5, 4), 16);
        is("row", x.told(2, 4), 0);
        is("column", x.told(6, 0), 5);
        is("column", x.told(6, 3), 9);
        is("all", x.told(6, 4), 29);
        is("no cell", x.told(7, 0), -1);
        is("no cell", x.told(-1, 0), -1);
        is("no cell", x.told(0, 5), -1);
        is("no cell", x.told(0, -1), -1);
        is("none is refused", x.status(16), 0);
    }

    private void promise31() {
        start(31, "could");
        tableRow(0, 1, 7, 0, 5);
        tableRow(5, 4, 0, 8, 4);
        x.fill();
        is("no table", x.could(0, 0, true), -1);
        x.table();
        // hidden are (0, 0) 1, (0, 1) 7, (5, 0) 4 and (5, 1) 0
        is("hidden", x.told(5, 1), -2);
        is("least", x.could(0, 0, false), 1);
        is("most", x.could(0, 0, true), 5);
        is("least", x.could(0, 1, false), 3);
        is("most", x.could(0, 1, true), 7);
        is("least", x.could(5, 0, false), 0);
        is("most", x.could(5, 0, true), 4);
        is("least", x.could(5, 1, false), 0);
        is("most", x.could(5, 1, true), 4);
        is("told", x.could(5, 2, false), 8);
        is("told", x.could(5, 2, true), 8);
        is("a sum", x.could(6, 0, true), -1);
        is("a sum", x.could(0, 4, true), -1);
        is("no cell", x.could(-1, 0, true), -1);
        is("no cell", x.could(0, -1, true), -1);
        is("none is refused", x.status(16), 0);
    }

    private void promise32() {
        start(32, "status of one door");
        x.door(0, 0, 0);
        is("no returns", x.status(1), 0);
        is("to be asked", x.status(8), 1);
        x.paper(0);
        is("one return", x.status(1), 1);
        is("none to be asked", x.status(8), 0);
        start(32, "status");
        lawOf("k3p1c4");
        int a = knocked(0, 5, 6, 7);
        int b = home(1, 0, 5, -1);
        x.paper(b);
        int c = x.door(2, 0, 0);
        x.knock(c, 4);
        x.proxy(c, 2);
        x.door(3, 0, 0);
        x.door(3, 1, 0);
        x.twice(a, 2, c, 1);
        x.row(0, 0, 2);
        x.second(0, 0);
        x.second(5, 0);
        long[] open = {5, 3, 0, 5, 1, 2, 1, 0, 4, 2, -1};
        statusIs(open);
        x.fill();
        long[] filled = {5, 4, 1, 8, 1, 2, 1, 1, 3, 2, -1};
        statusIs(filled);
        is("k", x.status(18), 3);
        is("p", x.status(19), 1);
        is("c", x.status(20), 4);
        is("another", x.status(21), -1);
        is("another", x.status(-1), -1);
        is("another", x.status(Integer.MAX_VALUE), -1);
        is("another", x.status(Integer.MIN_VALUE), -1);
        x.row(0, 0, -1);
        x.row(0, 0, 31);
        x.set(0, 9, 9);
        x.paper(-1);
        x.fill();
        x.blockIn(0);
        x.blockIn(1);
        for (int what = 11; what <= 17; what++) {
            is("refusals " + what, x.status(what), 1);
        }
    }

    private void statusIs(long[] want) {
        for (int what = 0; what < want.length; what++) {
            is("status(" + what + ")", x.status(what), want[what]);
        }
    }
}
