import java.util.Random;

/** Runs of calls by chance (the same ones each time), put to the class and to the plain census. */
public final class ModelTest {
    private static final long[] ODD = {
        -1, 0, 1, 110, 111, 127, 128, -128, 255, 32767, -32768, 65556, Integer.MIN_VALUE, Integer.MAX_VALUE,
        Long.MIN_VALUE, Long.MAX_VALUE, 4294967316L, 4294967295L, 1L << 33, -(1L << 40) + 30};

    private static final int WHOLE = 512;
    private static final int ROOM_TO_ASK = 112;

    private final Due due = new Due();

    public static void main(String[] args) {
        ModelTest test = new ModelTest();
        for (int seed = 0; seed < 400; seed++) {
            test.due.part("census " + seed);
            test.census(new Random(seed));
        }
        for (int seed = 0; seed < 400; seed++) {
            test.due.part("wild " + seed);
            test.wild(new Random(seed), seed % 2 == 0 ? WHOLE : WHOLE - ROOM_TO_ASK);
        }
        test.due.end();
    }

    /** A whole census as one goes, with a wild call here and there. */
    private void census(Random random) {
        Pair pair = new Pair(due);
        int doors = 1 + random.nextInt(24);
        int likes = 1 + random.nextInt(4);
        int blocks = 1 + random.nextInt(6);
        int oldest = random.nextBoolean() ? 110 : 70;
        if (random.nextBoolean()) {
            giveLaw(pair, random);
        }
        for (int d = 0; d < doors; d++) {
            pair.call("door", random.nextInt(blocks), random.nextInt(likes), random.nextInt(1024));
        }
        for (int n = random.nextInt(8); n > 0; n--) {
            pair.call("near", random.nextInt(6), random.nextInt(6));
        }
        for (int d = 0; d < doors; d++) {
            if (random.nextInt(4) == 0) {
                giveRow(pair, random, 1 + random.nextInt(3), random.nextInt(8), oldest);
            }
            pair.call("truth", d, 1 + random.nextInt(3));
        }
        for (int n = doors * 3; n > 0 && pair.left() > 2 * ROOM_TO_ASK; n--) {
            fieldCall(pair, random, doors);
        }
        pair.call("fill");
        for (int n = 20; n > 0 && pair.left() > ROOM_TO_ASK; n--) {
            lateCall(pair, random, doors);
        }
        pair.compareAll();
    }

    private void giveLaw(Pair pair, Random random) {
        int sort = random.nextInt(4);
        pair.call("row", 0, sort, 6);
        String text = "k" + (1 + random.nextInt(9)) + "p" + (1 + random.nextInt(3)) + "c" + (2 + random.nextInt(4));
        for (int i = 0; i < 6; i++) {
            long high = sort == 3 && random.nextBoolean() ? 7L << 32 : 0;
            pair.call("set", 0, i, text.charAt(i) + high);
        }
        if (random.nextInt(3) == 0) {
            pair.call("set", 0, random.nextInt(6), ODD[random.nextInt(ODD.length)]);
        }
        pair.call("law", 0);
        pair.call("fault");
    }

    private void giveRow(Pair pair, Random random, int s, int size, int oldest) {
        pair.call("row", s, random.nextInt(4), size);
        for (int i = 0; i < size; i++) {
            long value = random.nextInt(12) == 0 ? ODD[random.nextInt(ODD.length)] : random.nextInt(oldest + 1);
            pair.call("set", s, i, value);
        }
    }

    private void fieldCall(Pair pair, Random random, int doors) {
        int d = random.nextInt(doors);
        switch (random.nextInt(14)) {
            case 0, 1 -> pair.call("paper", d);
            case 2, 3, 4, 5 -> pair.call("knock", d, random.nextInt(10));
            case 6, 7 -> pair.call("proxy", d, random.nextInt(13));
            case 8, 9 -> pair.call("twice", d, random.nextInt(4), random.nextInt(doors), random.nextInt(4));
            case 10 -> pair.call("truth", d, 1 + random.nextInt(3));
            case 11 -> {
                pair.call("cut", random.nextInt(26) - 1);
                for (int b = -1; b < 7; b++) {
                    pair.call("walk", b);
                }
            }
            case 12 -> {
                pair.call("second", random.nextInt(6), 1 + random.nextInt(3));
                pair.call("right", 0);
                pair.call("right", 1);
            }
            default -> {
                pair.call("bestHour", random.nextInt(4));
                pair.call("status", random.nextInt(21));
            }
        }
    }

    private void lateCall(Pair pair, Random random, int doors) {
        int d = random.nextInt(doors);
        switch (random.nextInt(6)) {
            case 0, 1 -> pair.call("twice", d, random.nextInt(4), random.nextInt(doors), random.nextInt(4));
            case 2 -> {
                if (random.nextInt(4) == 0) {
                    giveLaw(pair, random);
                }
            }
            case 3 -> {
                if (random.nextInt(2) == 0) {
                    pair.call("table");
                }
            }
            case 4 -> {
                int size = random.nextInt(8);
                giveRow(pair, random, 5, size, 8);
                pair.call("second", random.nextInt(6), 5);
            }
            default -> fieldCall(pair, random, doors);
        }
    }

    /** Any call with any numbers, most of them low; after a whole run nothing is left to ask. */
    private void wild(Random random, int size) {
        Pair pair = new Pair(due);
        while (pair.left() > WHOLE - size) {
            String name = Pair.CALLS[random.nextInt(Pair.CALLS.length)];
            if (name.equals("fill") && random.nextInt(6) != 0) {
                continue;
            }
            long[] given = new long[5];
            for (int i = 0; i < given.length; i++) {
                given[i] = someNumber(random);
            }
            pair.call(name, given);
        }
        if (pair.left() > 0) {
            pair.compareAll();
        }
    }

    private static long someNumber(Random random) {
        return switch (random.nextInt(20)) {
            case 0 -> ODD[random.nextInt(ODD.length)];
            case 1, 2, 3 -> random.nextInt(33) - 2;
            default -> random.nextInt(4);
        };
    }
}
