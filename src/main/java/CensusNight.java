import java.util.Arrays;

/** A census, from its doors to the table that is told to all. See README.md. */
public final class CensusNight {
    public static final int NONE = -1;

    private static final int NOBODY = -1;
    private static final int OTHER = -2;
    private static final int NOTHING = -3;
    private static final int BELOW = -4;
    private static final int BEYOND = -5;
    private static final int WRONG = -6;
    private static final int ROOM = -7;
    private static final int FINE = 0;

    private static final int BLOCKS = 6;
    private static final int LIKES = 4;
    private static final int HOURS = 10;
    private static final int BANDS = 4;
    private static final int SHELVES = 8;
    private static final int MOST_DOORS = 24;
    private static final int MOST_HEADS = 12;
    private static final int MOST_SECOND = 99;

    private final Shelf[] shelves = new Shelf[SHELVES];
    private final Door[] doors = new Door[MOST_DOORS];
    private final int[] refusals = new int[1 - ROOM];
    private final Law theLaw = new Law();
    private final Chances chances = new Chances();
    private final Walks walks = new Walks();
    private final Table theTable = new Table();
    private int doorCount;
    private int secondBlocks;
    private boolean closed;

    public CensusNight() {
        for (int s = 0; s < SHELVES; s++) {
            shelves[s] = new Shelf();
        }
    }

    // ---- doors, blocks and shelves

    public int door(int block, int like, int hours) {
        if (!isBlock(block)) {
            return refuse(NOBODY);
        }
        if (!isLike(like) || hours < 0 || hours >= 1 << HOURS || closed) {
            return refuse(WRONG);
        }
        if (doorCount >= MOST_DOORS) {
            return refuse(ROOM);
        }
        doors[doorCount] = new Door(block, like, hours);
        doorCount++;
        return doorCount - 1;
    }

    public int near(int a, int b) {
        if (!isBlock(a) || !isBlock(b)) {
            return refuse(NOBODY);
        }
        if (a == b) {
            return refuse(WRONG);
        }
        return walks.join(a, b) ? 1 : 0;
    }

    public int row(int s, int sort, int n) {
        if (!isShelf(s)) {
            return refuse(NOBODY);
        }
        if (n < 0) {
            return refuse(BELOW);
        }
        if (sort < 0 || sort >= Shelf.SORTS) {
            return refuse(WRONG);
        }
        if (n > Shelf.MOST_ELEMENTS) {
            return refuse(ROOM);
        }
        shelves[s].putRow(sort, n);
        return 1;
    }

    public int set(int s, int i, long v) {
        int fit = isShelf(s) ? shelves[s].fitAsRow() : NOBODY;
        if (fit != FINE) {
            return refuse(fit);
        }
        if (!shelves[s].hasElement(i)) {
            return refuse(BEYOND);
        }
        shelves[s].putElement(i, v);
        return 1;
    }

    public int copy(int p, int q, int i, int j, int n) {
        if (!isShelf(p) || !isShelf(q)) {
            return refuse(NOBODY);
        }
        Shelf source = shelves[p];
        Shelf goal = shelves[q];
        if (source.isDoor() || goal.isDoor()) {
            return refuse(OTHER);
        }
        if (source.isRow() && goal.isRow() && source.sort != goal.sort) {
            return refuse(OTHER);
        }
        if (!source.isRow() || !goal.isRow()) {
            return refuse(NOTHING);
        }
        if (n < 0) {
            return refuse(BELOW);
        }
        if (!source.hasStretch(i, n) || !goal.hasStretch(j, n)) {
            return refuse(BEYOND);
        }
        System.arraycopy(source.elements, i, goal.elements, j, n);
        return 1;
    }

    public long element(int s, int i) {
        if (!isShelf(s) || !shelves[s].hasElement(i)) {
            return 0;
        }
        return shelves[s].elements[i];
    }

    public int show(int s, int door) {
        if (!isShelf(s) || door != NONE && !isDoor(door)) {
            return refuse(NOBODY);
        }
        if (door == NONE) {
            shelves[s].putNothing();
            return 0;
        }
        shelves[s].putDoor(door);
        return 1;
    }

    public int holds(int s) {
        return isShelf(s) ? shelves[s].contents() : NONE;
    }

    public int blockIn(int s) {
        int fit = isShelf(s) ? shelves[s].fitAsDoor() : NOBODY;
        if (fit != FINE) {
            return refuse(fit);
        }
        Door shown = doorAt(shelves[s].doorNumber);
        return shown == null ? refuse(NOBODY) : shown.block;
    }

    // ---- the law

    public int law(int s) {
        int fit = isShelf(s) ? shelves[s].fitAsRow() : NOBODY;
        if (fit != FINE) {
            return refuse(fit);
        }
        return theLaw.read(shelves[s]) ? 1 : refuse(WRONG);
    }

    public int fault() {
        return theLaw.latestFault;
    }

    // ---- the field

    public int truth(int door, int s) {
        Door home = doorAt(door);
        if (home == null || !isShelf(s)) {
            return refuse(NOBODY);
        }
        int fit = shelves[s].fitAsRow();
        if (fit != FINE) {
            return refuse(fit);
        }
        if (closed) {
            return refuse(WRONG);
        }
        if (shelves[s].size > MOST_HEADS) {
            return refuse(ROOM);
        }
        return home.learnTruth(shelves[s]);
    }

    public int paper(int door) {
        Door home = doorAt(door);
        if (home == null) {
            return refuse(NOBODY);
        }
        if (closed || !home.isToBeAsked() || home.broken) {
            return refuse(WRONG);
        }
        return home.takePaper();
    }

    public int knock(int door, int hour) {
        Door home = doorAt(door);
        if (home == null) {
            return refuse(NOBODY);
        }
        if (hour < 0 || hour >= HOURS || closed || !home.isToBeAsked()) {
            return refuse(WRONG);
        }
        if (home.knocks >= theLaw.mostKnocks) {
            return refuse(WRONG);
        }
        boolean answered = home.takeKnock(hour);
        chances.note(home.like, hour, answered);
        return answered ? 1 : 0;
    }

    public int proxy(int door, int n) {
        Door home = doorAt(door);
        if (home == null) {
            return refuse(NOBODY);
        }
        if (n < 0 || n > MOST_HEADS || closed || !home.isToBeAsked()) {
            return refuse(WRONG);
        }
        if (home.reply == Door.PROXY || home.knocks < theLaw.knocksAhead) {
            return refuse(WRONG);
        }
        home.takeProxy(n);
        return n;
    }

    public int twice(int a, int i, int b, int k) {
        Door one = doorAt(a);
        Door another = doorAt(b);
        if (one == null || another == null) {
            return refuse(NOBODY);
        }
        if (!one.hasHead(i) || !another.hasHead(k)) {
            return refuse(BEYOND);
        }
        if (a == b || one.isStruck(i) || another.isStruck(k)) {
            return refuse(WRONG);
        }
        if (one.reply == Door.FILLED || another.reply == Door.FILLED) {
            return refuse(WRONG);
        }
        if (a > b) {
            one.strike(i);
            return a;
        }
        another.strike(k);
        return b;
    }

    public int fill() {
        if (closed) {
            return refuse(WRONG);
        }
        closed = true;
        int filled = 0;
        for (int d = 0; d < doorCount; d++) {
            if (doors[d].reply == Door.NO_RETURN && fillDoor(d)) {
                filled++;
            }
        }
        return filled;
    }

    public int from(int door) {
        Door home = doorAt(door);
        return home == null ? NONE : home.filledFrom;
    }

    // ---- what is known

    public int about(int door, int what) {
        Door home = doorAt(door);
        return home == null ? NONE : home.tell(what);
    }

    public int age(int door, int i) {
        Door home = doorAt(door);
        return home == null || !home.hasHead(i) ? NONE : home.ages[i];
    }

    public int count(int block, int band, boolean with) {
        if (!isBlock(block) || band < 0 || band >= BANDS) {
            return NONE;
        }
        int sum = 0;
        for (int d = 0; d < doorCount; d++) {
            Door home = doors[d];
            if (home.block == block && (with || home.reply != Door.FILLED)) {
                sum += home.countedInBand(band);
            }
        }
        return sum;
    }

    public int bestHour(int like) {
        return isLike(like) ? chances.greatest(like) : NONE;
    }

    // ---- walks

    public int cut(int limit) {
        if (limit < 0 || limit > MOST_DOORS) {
            return refuse(WRONG);
        }
        walks.clearWork();
        for (int d = 0; d < doorCount; d++) {
            walks.addDoor(doors[d].block, doors[d].isToBeAsked());
        }
        int parts = walks.part(limit);
        return parts == NONE ? refuse(WRONG) : parts;
    }

    public int walk(int block) {
        return isBlock(block) ? walks.numberOf(block) : NONE;
    }

    // ---- the second count

    public int second(int block, int s) {
        if (!isBlock(block) || !isShelf(s)) {
            return refuse(NOBODY);
        }
        Shelf shelf = shelves[s];
        int fit = shelf.fitAsRow();
        if (fit != FINE) {
            return refuse(fit);
        }
        int wanted = doorsOf(block);
        if (shelf.size < wanted) {
            return refuse(BEYOND);
        }
        for (int i = 0; i < wanted; i++) {
            if (shelf.elementAsInt(i) < 0 || shelf.elementAsInt(i) > MOST_SECOND) {
                return refuse(WRONG);
            }
        }
        return keepSecond(block, shelf);
    }

    public long right(boolean lower) {
        long second = 0;
        long both = 0;
        for (int d = 0; d < doorCount; d++) {
            Door home = doors[d];
            if (home.secondHeads != NONE) {
                second += home.secondHeads;
                both += Math.min(home.secondHeads, home.counted());
            }
        }
        if (both == 0) {
            return lower ? 1 : 0;
        }
        long upper = countedHeads() * second;
        long shared = commonDivisor(upper, both);
        if (shared == 0) {
            return lower ? 1 : 0;
        }
        return lower ? both / shared : upper / shared;
    }

    public int heap() {
        int all = 0;
        int fives = 0;
        for (int d = 0; d < doorCount; d++) {
            all += doors[d].countedThatMayHeap(1);
            fives += doors[d].countedThatMayHeap(5);
        }
        return all == 0 ? 100 : 500 * fives / all;
    }

    // ---- the table

    public int table() {
        if (!closed) {
            return refuse(WRONG);
        }
        for (int block = 0; block < BLOCKS; block++) {
            for (int band = 0; band < BANDS; band++) {
                theTable.draft(block, band, count(block, band, true));
            }
        }
        return theTable.make(theLaw.leastCell) ? theTable.hiddenCells() : refuse(WRONG);
    }

    public int told(int row, int column) {
        return theTable.tell(row, column);
    }

    public int could(int row, int column, boolean most) {
        return theTable.extreme(row, column, most);
    }

    // ---- how many

    public int status(int what) {
        switch (what) {
            case 0:
                return doorCount;
            case 1:
                return doorCount - doorsWith(Door.NO_RETURN);
            case 2:
                return doorsWith(Door.FILLED);
            case 3:
                return countedHeads();
            case 4:
                return struckHeads();
            case 5:
                return chances.allKnocks;
            case 6:
                return chances.allAnswers;
            case 7:
                return closed ? 1 : 0;
            case 8:
                return doorsToBeAsked();
            case 9:
                return Integer.bitCount(secondBlocks);
            case 18:
                return theLaw.mostKnocks;
            case 19:
                return theLaw.knocksAhead;
            case 20:
                return theLaw.leastCell;
            default:
                return what >= 11 && what <= 17 ? refusals[what - 10] : NONE;
        }
    }

    // ---- helpers

    private int refuse(int number) {
        if (number <= NOBODY && number >= ROOM) {
            refusals[-number]++;
        }
        return number;
    }

    private static boolean isBlock(int block) {
        return block >= 0 && block < BLOCKS;
    }

    private static boolean isLike(int like) {
        return like >= 0 && like < LIKES;
    }

    private static boolean isShelf(int s) {
        return s >= 0 && s < SHELVES;
    }

    private boolean isDoor(int door) {
        return door >= 0 && door < doorCount;
    }

    private Door doorAt(int door) {
        return isDoor(door) ? doors[door] : null;
    }

    private boolean fillDoor(int d) {
        int nearest = NONE;
        for (int other = 0; other < doorCount; other++) {
            if (!doors[other].canFill(doors[d].like)) {
                continue;
            }
            if (nearest == NONE || Math.abs(other - d) < Math.abs(nearest - d)) {
                nearest = other;
            }
        }
        if (nearest == NONE) {
            return false;
        }
        doors[d].takeHeadsOf(doors[nearest], nearest);
        return true;
    }

    private int doorsOf(int block) {
        int sum = 0;
        for (int d = 0; d < doorCount; d++) {
            if (doors[d].block == block) {
                sum++;
            }
        }
        return sum;
    }

    private int keepSecond(int block, Shelf shelf) {
        int sum = 0;
        int next = 0;
        for (int d = 0; d < doorCount; d++) {
            if (doors[d].block == block && shelf.hasElement(next)) {
                doors[d].secondHeads = shelf.elementAsInt(next);
                sum += doors[d].secondHeads;
                next++;
            }
        }
        secondBlocks |= 1 << block;
        return sum;
    }

    private int doorsWith(int reply) {
        int sum = 0;
        for (int d = 0; d < doorCount; d++) {
            if (doors[d].reply == reply) {
                sum++;
            }
        }
        return sum;
    }

    private int doorsToBeAsked() {
        int sum = 0;
        for (int d = 0; d < doorCount; d++) {
            if (doors[d].isToBeAsked()) {
                sum++;
            }
        }
        return sum;
    }

    private int countedHeads() {
        int sum = 0;
        for (int d = 0; d < doorCount; d++) {
            sum += doors[d].counted();
        }
        return sum;
    }

    private int struckHeads() {
        int sum = 0;
        for (int d = 0; d < doorCount; d++) {
            sum += Integer.bitCount(doors[d].struck);
        }
        return sum;
    }

    private static long commonDivisor(long a, long b) {
        long greater = a;
        long lesser = b;
        // Euclid needs far fewer steps than a long has bits times two.
        for (int step = 0; step < 200 && lesser != 0; step++) {
            long rest = greater % lesser;
            greater = lesser;
            lesser = rest;
        }
        return greater;
    }

    /** A shelf keeps one long array for every row it ever holds, so that no call makes a new one. */
    private static final class Shelf {
        static final int SORTS = 4;
        static final int MOST_ELEMENTS = 30;
        private static final int BYTES = 0;
        private static final int SHORTS = 1;
        private static final int INTS = 2;
        private static final int ROW_MARK = 100;

        final long[] elements = new long[MOST_ELEMENTS];
        int sort = NONE;
        int size;
        int doorNumber = NONE;

        boolean isRow() {
            return sort != NONE;
        }

        boolean isDoor() {
            return doorNumber != NONE;
        }

        void putNothing() {
            sort = NONE;
            size = 0;
            doorNumber = NONE;
        }

        void putDoor(int number) {
            putNothing();
            doorNumber = number;
        }

        void putRow(int newSort, int newSize) {
            putNothing();
            sort = newSort;
            size = newSize;
            Arrays.fill(elements, 0L);
        }

        int contents() {
            return isRow() ? ROW_MARK + sort : doorNumber;
        }

        int fitAsRow() {
            if (isDoor()) {
                return OTHER;
            }
            return isRow() ? FINE : NOTHING;
        }

        int fitAsDoor() {
            if (isRow()) {
                return OTHER;
            }
            return isDoor() ? FINE : NOTHING;
        }

        boolean hasElement(int i) {
            return i >= 0 && i < size;
        }

        /** Without i + n, which could wrap around. */
        boolean hasStretch(int i, int n) {
            return i >= 0 && n >= 0 && n <= size && i <= size - n;
        }

        void putElement(int i, long v) {
            if (hasElement(i)) {
                elements[i] = lowestBits(v);
            }
        }

        private long lowestBits(long v) {
            switch (sort) {
                case BYTES:
                    return (byte) v;
                case SHORTS:
                    return (short) v;
                case INTS:
                    return (int) v;
                default:
                    return v;
            }
        }

        int elementAsInt(int i) {
            return hasElement(i) ? (int) elements[i] : 0;
        }

        /** The least long is 0 as an int, so it must be told apart ahead of the cast. */
        int elementAsAge(int i) {
            int years = elementAsInt(i);
            boolean leastLong = hasElement(i) && elements[i] == Long.MIN_VALUE;
            return leastLong || years < 0 || years > Door.OLDEST ? Door.UNTOLD : years;
        }
    }

    private static final class Law {
        private static final String LETTERS = "kpc";
        private static final int LENGTH = 6;

        int mostKnocks = 3;
        int knocksAhead = 2;
        int leastCell = 3;
        int latestFault = NONE;

        boolean read(Shelf shelf) {
            latestFault = firstWrongPlace(shelf);
            if (latestFault != NONE) {
                return false;
            }
            mostKnocks = shelf.elementAsInt(1) - '0';
            knocksAhead = shelf.elementAsInt(3) - '0';
            leastCell = shelf.elementAsInt(5) - '0';
            return true;
        }

        private static int firstWrongPlace(Shelf shelf) {
            for (int place = 0; place < LENGTH; place++) {
                if (place >= shelf.size || !mayStand(place, shelf.elementAsInt(place))) {
                    return place;
                }
            }
            return shelf.size > LENGTH ? LENGTH : NONE;
        }

        private static boolean mayStand(int place, int sign) {
            if (place % 2 == 0) {
                return sign == LETTERS.charAt(place / 2);
            }
            return sign >= (place == LENGTH - 1 ? '2' : '1') && sign <= '9';
        }
    }

    private static final class Door {
        static final int NO_RETURN = 0;
        static final int PAPER = 1;
        static final int KNOCK = 2;
        static final int PROXY = 3;
        static final int FILLED = 4;
        static final int UNTOLD = -2;
        static final int OLDEST = 110;
        private static final int MOST_FILLED = 2;

        final int block;
        final int like;
        final int hours;
        final int[] truthAges = new int[MOST_HEADS];
        final int[] ages = new int[MOST_HEADS];
        int truthHeads;
        int reply = NO_RETURN;
        boolean broken;
        int heads;
        int struck;
        int knocks;
        int filledOthers;
        int filledFrom = NONE;
        int secondHeads = NONE;

        Door(int block, int like, int hours) {
            this.block = block;
            this.like = like;
            this.hours = hours;
        }

        int learnTruth(Shelf shelf) {
            truthHeads = Math.min(shelf.size, MOST_HEADS);
            for (int i = 0; i < truthHeads; i++) {
                truthAges[i] = shelf.elementAsAge(i);
            }
            return truthHeads;
        }

        boolean isToBeAsked() {
            return reply == NO_RETURN || reply == PROXY || broken;
        }

        private void startReturn(int kind) {
            reply = kind;
            broken = false;
            heads = 0;
            struck = 0;
        }

        private void addHead(int years) {
            if (heads < MOST_HEADS) {
                ages[heads] = years;
                heads++;
            }
        }

        int takePaper() {
            startReturn(PAPER);
            for (int i = 0; i < truthHeads && !broken; i++) {
                if (truthAges[i] == UNTOLD) {
                    broken = true;
                } else {
                    addHead(truthAges[i]);
                }
            }
            return heads;
        }

        boolean takeKnock(int hour) {
            knocks++;
            if ((hours >> hour & 1) == 0) {
                return false;
            }
            startReturn(KNOCK);
            for (int i = 0; i < truthHeads; i++) {
                addHead(truthAges[i]);
            }
            return true;
        }

        void takeProxy(int n) {
            startReturn(PROXY);
            for (int i = 0; i < n; i++) {
                addHead(UNTOLD);
            }
        }

        boolean canFill(int wantedLike) {
            boolean sure = reply == PAPER && !broken || reply == KNOCK;
            return sure && like == wantedLike && filledOthers < MOST_FILLED;
        }

        void takeHeadsOf(Door giver, int giverNumber) {
            startReturn(FILLED);
            for (int i = 0; i < giver.heads; i++) {
                if (!giver.isStruck(i)) {
                    addHead(giver.ages[i]);
                }
            }
            filledFrom = giverNumber;
            giver.filledOthers++;
        }

        boolean hasHead(int i) {
            return i >= 0 && i < heads;
        }

        boolean isStruck(int i) {
            return (struck >> i & 1) != 0;
        }

        void strike(int i) {
            struck |= 1 << i;
        }

        int counted() {
            return heads - Integer.bitCount(struck);
        }

        int countedInBand(int band) {
            int sum = 0;
            for (int i = 0; i < heads; i++) {
                if (!isStruck(i) && bandOf(ages[i]) == band) {
                    sum++;
                }
            }
            return sum;
        }

        private static int bandOf(int years) {
            if (years == UNTOLD) {
                return 3;
            }
            if (years <= 17) {
                return 0;
            }
            return years <= 64 ? 1 : 2;
        }

        /** Those of age 23 to 62 whose age is a multiple of the step. */
        int countedThatMayHeap(int step) {
            int sum = 0;
            for (int i = 0; i < heads; i++) {
                boolean within = ages[i] >= 23 && ages[i] <= 62 && !isStruck(i);
                if (within && step > 0 && ages[i] % step == 0) {
                    sum++;
                }
            }
            return sum;
        }

        int tell(int what) {
            switch (what) {
                case 0:
                    return reply;
                case 1:
                    return broken ? 1 : 0;
                case 2:
                    return heads;
                case 3:
                    return Integer.bitCount(struck);
                case 4:
                    return knocks;
                case 5:
                    return filledOthers;
                default:
                    return NONE;
            }
        }
    }

    /** Knocks and answers of each like at each hour. */
    private static final class Chances {
        private final int[] knocks = new int[LIKES * HOURS];
        private final int[] answers = new int[LIKES * HOURS];
        int allKnocks;
        int allAnswers;

        void note(int like, int hour, boolean answered) {
            int place = like * HOURS + hour;
            if (place < 0 || place >= knocks.length) {
                return;
            }
            knocks[place]++;
            allKnocks++;
            if (answered) {
                answers[place]++;
                allAnswers++;
            }
        }

        int greatest(int like) {
            int best = 0;
            for (int hour = 1; hour < HOURS; hour++) {
                if (isGreater(like * HOURS + hour, like * HOURS + best)) {
                    best = hour;
                }
            }
            return best;
        }

        private boolean isGreater(int one, int another) {
            int left = (answers[one] + 1) * (knocks[another] + 2);
            int right = (answers[another] + 1) * (knocks[one] + 2);
            return left > right;
        }
    }

    /** Tries every way to part the blocks; six blocks have no more than 203. */
    private static final class Walks {
        private final int[] nearBlocks = new int[BLOCKS];
        private final int[] work = new int[BLOCKS];
        private final int[] latest = new int[BLOCKS];
        private final int[] members = new int[BLOCKS];
        private final int[] trial = new int[BLOCKS];
        private final int[] best = new int[BLOCKS];
        private int present;
        private int most;
        private int bestParts;
        private int bestGreatest;

        Walks() {
            Arrays.fill(latest, NONE);
        }

        boolean join(int a, int b) {
            boolean fresh = (nearBlocks[a] >> b & 1) == 0;
            nearBlocks[a] |= 1 << b;
            nearBlocks[b] |= 1 << a;
            return fresh;
        }

        int numberOf(int block) {
            return latest[block];
        }

        void clearWork() {
            present = 0;
            Arrays.fill(work, 0);
        }

        void addDoor(int block, boolean toBeAsked) {
            present |= 1 << block;
            if (toBeAsked) {
                work[block]++;
            }
        }

        /** How many walks the cut has, NONE if there is no cut. */
        int part(int limit) {
            most = limit;
            bestParts = BLOCKS + 1;
            bestGreatest = 0;
            Arrays.fill(trial, NONE);
            Arrays.fill(members, 0);
            place(this, 0, 0);
            if (bestParts > BLOCKS) {
                return NONE;
            }
            System.arraycopy(best, 0, latest, 0, BLOCKS);
            return bestParts;
        }

        /** Lesser walk numbers come first, so of equally good ways the first one stands. */
        private static void place(Walks walks, int block, int parts) {
            if (parts > walks.bestParts) {
                return;
            }
            if (block >= BLOCKS) {
                walks.judge(parts);
                return;
            }
            if ((walks.present >> block & 1) == 0) {
                place(walks, block + 1, parts);
                return;
            }
            for (int w = 0; w <= parts && w < BLOCKS; w++) {
                walks.members[w] |= 1 << block;
                walks.trial[block] = w;
                place(walks, block + 1, Math.max(parts, w + 1));
                walks.members[w] &= ~(1 << block);
            }
        }

        private void judge(int parts) {
            int greatest = 0;
            for (int w = 0; w < parts; w++) {
                greatest = Math.max(greatest, workOf(members[w]));
            }
            boolean better = parts < bestParts || parts == bestParts && greatest < bestGreatest;
            if (greatest > most || !better || !allTogether(parts)) {
                return;
            }
            bestParts = parts;
            bestGreatest = greatest;
            System.arraycopy(trial, 0, best, 0, BLOCKS);
        }

        private int workOf(int blocks) {
            int sum = 0;
            for (int block = 0; block < BLOCKS; block++) {
                if ((blocks >> block & 1) != 0) {
                    sum += work[block];
                }
            }
            return sum;
        }

        private boolean allTogether(int parts) {
            for (int w = 0; w < parts; w++) {
                if (!isTogether(members[w])) {
                    return false;
                }
            }
            return true;
        }

        private boolean isTogether(int blocks) {
            int reached = blocks & -blocks;
            for (int round = 0; round < BLOCKS && reached != blocks; round++) {
                reached |= nearOnes(reached) & blocks;
            }
            return reached == blocks;
        }

        private int nearOnes(int blocks) {
            int all = 0;
            for (int block = 0; block < BLOCKS; block++) {
                if ((blocks >> block & 1) != 0) {
                    all |= nearBlocks[block];
                }
            }
            return all;
        }
    }

    /** The latest table that was made, and what can be known of it. */
    private static final class Table {
        static final int CELLS = BLOCKS * BANDS;
        private static final int HIDDEN = -2;

        private final int[] drafted = new int[CELLS];
        private final int[] cells = new int[CELLS];
        private final Hiding hiding = new Hiding();
        private final Shifts shifts = new Shifts();
        private int hidden;
        private boolean made;

        void draft(int row, int column, int heads) {
            if (isCell(row, column)) {
                drafted[row * BANDS + column] = heads;
            }
        }

        /** A table that can't be made leaves the older one as it was. */
        boolean make(int leastCell) {
            int found = hiding.find(drafted, leastCell);
            if (found == NONE) {
                return false;
            }
            System.arraycopy(drafted, 0, cells, 0, CELLS);
            hidden = found;
            made = true;
            return true;
        }

        int hiddenCells() {
            return Integer.bitCount(hidden);
        }

        int tell(int row, int column) {
            if (!made || row < 0 || row > BLOCKS || column < 0 || column > BANDS) {
                return NONE;
            }
            if (isCell(row, column)) {
                return isHidden(row, column) ? HIDDEN : cells[row * BANDS + column];
            }
            return sum(row, column);
        }

        int extreme(int row, int column, boolean most) {
            if (!made || !isCell(row, column)) {
                return NONE;
            }
            if (!isHidden(row, column)) {
                return cells[row * BANDS + column];
            }
            return shifts.extreme(cells, hidden, row * BANDS + column, most);
        }

        private int sum(int row, int column) {
            int all = 0;
            for (int cell = 0; cell < CELLS; cell++) {
                boolean inRow = row == BLOCKS || row == cell / BANDS;
                boolean inColumn = column == BANDS || column == cell % BANDS;
                if (inRow && inColumn) {
                    all += cells[cell];
                }
            }
            return all;
        }

        private boolean isHidden(int row, int column) {
            return (hidden >> row * BANDS + column & 1) != 0;
        }

        private static boolean isCell(int row, int column) {
            return row >= 0 && row < BLOCKS && column >= 0 && column < BANDS;
        }
    }

    /**
     * Finds which cells to hide. Sets of cells are bits of an int, cell 4 * row + column.
     * Two tables with the same sums differ by rounds that add one to a cell and take one from the
     * next, in turns along rows and columns; so a small cell doesn't follow just if such a round
     * goes through it: any hidden cell may grow, and a hidden one above 0 may shrink.
     */
    private static final class Hiding {
        private static final int ALL = (1 << Table.CELLS) - 1;
        private static final int FIRST_COLUMN = 0x111111;
        private static final int FIRST_ROW = 0xF;
        private static final int MOST_OTHERS = 4;

        private int small;
        private int positive;

        /** The cells to hide, NONE if there is no such set. */
        int find(int[] cells, int leastCell) {
            small = 0;
            positive = 0;
            for (int cell = 0; cell < Table.CELLS && cell < cells.length; cell++) {
                if (cells[cell] > 0) {
                    positive |= 1 << cell;
                    small |= cells[cell] < leastCell ? 1 << cell : 0;
                }
            }
            int found = NONE;
            for (int others = 0; others <= MOST_OTHERS && found == NONE; others++) {
                found = choose(this, 0, small, others);
            }
            return found;
        }

        /** The first set, as the document orders them, that hides so many more cells from the first one on. */
        private static int choose(Hiding hiding, int first, int hidden, int left) {
            // With fewest others each of them lies on a round, too: no row or column has one hidden cell alone.
            if (loneLines(hidden) > left) {
                return NONE;
            }
            if (left <= 0) {
                return hiding.noneFollows(hidden) ? hidden : NONE;
            }
            // Hiding more never makes a cell follow: if all that is left is too little, so is a part of it.
            if (!hiding.noneFollows(hidden | ALL << first & ALL)) {
                return NONE;
            }
            for (int cell = first; cell < Table.CELLS; cell++) {
                if ((hiding.small >> cell & 1) == 0) {
                    int found = choose(hiding, cell + 1, hidden | 1 << cell, left - 1);
                    if (found != NONE) {
                        return found;
                    }
                }
            }
            return NONE;
        }

        /** How many rows (or columns, if they are more) have one hidden cell, so that each needs another. */
        private static int loneLines(int hidden) {
            int rows = 0;
            for (int row = 0; row < BLOCKS; row++) {
                rows += isOneCell(hidden & FIRST_ROW << row * BANDS) ? 1 : 0;
            }
            int columns = 0;
            for (int column = 0; column < BANDS; column++) {
                columns += isOneCell(hidden & FIRST_COLUMN << column) ? 1 : 0;
            }
            return Math.max(rows, columns);
        }

        private static boolean isOneCell(int set) {
            return set != 0 && (set & set - 1) == 0;
        }

        private boolean noneFollows(int hidden) {
            for (int cell = 0; cell < Table.CELLS; cell++) {
                if ((small >> cell & 1) == 0) {
                    continue;
                }
                int others = hidden & ~(1 << cell);
                int row = FIRST_ROW << cell / BANDS * BANDS;
                int column = FIRST_COLUMN << cell % BANDS;
                if (!canShrink(row, column, others) && !canGrow(row, column, others)) {
                    return false;
                }
            }
            return true;
        }

        /** Whether a way of growing and shrinking cells leads from the row to the column. */
        private boolean canShrink(int row, int column, int others) {
            int rows = row;
            int old = 0;
            for (int round = 0; round < BLOCKS && rows != old; round++) {
                int columns = columnsOf(rows & others);
                if ((columns & column) != 0) {
                    return true;
                }
                old = rows;
                rows |= rowsOf(columns & others & positive);
            }
            return false;
        }

        private boolean canGrow(int row, int column, int others) {
            int columns = column;
            int old = 0;
            for (int round = 0; round < BLOCKS && columns != old; round++) {
                int rows = rowsOf(columns & others & positive);
                if ((rows & row) != 0) {
                    return true;
                }
                old = columns;
                columns |= columnsOf(rows & others);
            }
            return false;
        }

        /** All cells of the columns in which any of these cells stands. */
        private static int columnsOf(int set) {
            int folded = set | set >> 8 | set >> 16;
            return ((folded | folded >> 4) & FIRST_ROW) * FIRST_COLUMN;
        }

        /** All cells of the rows in which any of these cells stands. */
        private static int rowsOf(int set) {
            int folded = set | set >> 1;
            return ((folded | folded >> 2) & FIRST_COLUMN) * FIRST_ROW;
        }
    }

    /** Moves numbers round among hidden cells, sums kept, until one cell can go no further. */
    private static final class Shifts {
        private static final int NODES = BLOCKS + BANDS;
        private static final int MOST_ROUNDS = 100000;

        private final int[] work = new int[Table.CELLS];
        private final int[] before = new int[NODES];
        private final int[] queue = new int[NODES];
        private int open;

        int extreme(int[] cells, int hidden, int cell, boolean most) {
            System.arraycopy(cells, 0, work, 0, Table.CELLS);
            open = hidden & ~(1 << cell);
            int row = cell / BANDS;
            int column = BLOCKS + cell % BANDS;
            int start = most ? column : row;
            int goal = most ? row : column;
            for (int round = 0; round < MOST_ROUNDS && findWay(start, goal); round++) {
                int amount = wayRoom(start, goal);
                if (!most) {
                    amount = Math.min(amount, work[cell]);
                }
                if (amount <= 0) {
                    break;
                }
                moveAlong(start, goal, amount);
                work[cell] += most ? amount : -amount;
            }
            return work[cell];
        }

        /** The shortest way first: then the rounds are few. */
        private boolean findWay(int start, int goal) {
            Arrays.fill(before, NONE);
            before[start] = start;
            queue[0] = start;
            int end = 1;
            for (int next = 0; next < end && before[goal] == NONE; next++) {
                for (int node = 0; node < NODES; node++) {
                    if (before[node] == NONE && end < NODES && canStep(queue[next], node)) {
                        before[node] = queue[next];
                        queue[end] = node;
                        end++;
                    }
                }
            }
            return before[goal] != NONE;
        }

        /** From a row to a column a cell grows, from a column to a row it shrinks. */
        private boolean canStep(int one, int next) {
            if (one < BLOCKS == next < BLOCKS) {
                return false;
            }
            int cell = cellOf(one, next);
            return (open >> cell & 1) != 0 && (one < BLOCKS || work[cell] > 0);
        }

        private static int cellOf(int one, int another) {
            return Math.min(one, another) * BANDS + Math.max(one, another) - BLOCKS;
        }

        private int wayRoom(int start, int goal) {
            int room = Integer.MAX_VALUE;
            int node = goal;
            for (int step = 0; step < NODES && node != start; step++) {
                if (node < BLOCKS) {
                    room = Math.min(room, work[cellOf(before[node], node)]);
                }
                node = before[node];
            }
            return room;
        }

        private void moveAlong(int start, int goal, int amount) {
            int node = goal;
            for (int step = 0; step < NODES && node != start; step++) {
                work[cellOf(before[node], node)] += node < BLOCKS ? -amount : amount;
                node = before[node];
            }
        }
    }
}
