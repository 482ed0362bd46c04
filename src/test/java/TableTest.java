import java.util.ArrayList;
import java.util.Arrays;
import java.util.List;
import java.util.Random;
import java.util.Set;
import java.util.TreeSet;

/** Tables by chance: which cells are hidden, and what they could be, by trying all that could be. */
public final class TableTest {
    private static final int[] AGES = {10, 30, 70, -1};

    private final Due due = new Due();

    public static void main(String[] args) {
        TableTest test = new TableTest();
        Random random = new Random(11);
        for (int n = 0; n < 250; n++) {
            test.due.part("table " + n);
            test.check(someTable(random, 2), 2);
            test.check(someTable(random, 3), 3);
            test.check(someTable(random, 1 + random.nextInt(9)), 2 + random.nextInt(8));
        }
        for (int n = 0; n < 250; n++) {
            test.due.part("table again " + n);
            test.checkAgain(someTable(random, 2), 2, random);
            test.checkAgain(someTable(random, 3), 3, random);
        }
        for (int n = 0; n < 300; n++) {
            test.due.part("small table " + n);
            test.checkByAllTables(someTable(random, 2), 3);
        }
        test.due.end();
    }

    /** Numbers up to the most, many of them 0; whole rows or columns may be 0. */
    private static int[][] someTable(Random random, int most) {
        int[][] cells = new int[6][4];
        int rows = random.nextInt(64);
        int columns = random.nextInt(16);
        int seldom = 1 + random.nextInt(4);
        for (int cell = 0; cell < 24; cell++) {
            boolean used = (rows >> cell / 4 & 1) != 0 && (columns >> cell % 4 & 1) != 0;
            cells[cell / 4][cell % 4] = used && random.nextInt(seldom) == 0 ? random.nextInt(most + 1) : 0;
        }
        return cells;
    }

    /** A census that comes to this table; null if it needs too many doors. */
    private static CensusNight censusOf(int[][] cells, int least) {
        CensusNight census = new CensusNight();
        census.row(0, 0, 6);
        String law = "k3p2c" + least;
        for (int i = 0; i < 6; i++) {
            census.set(0, i, law.charAt(i));
        }
        census.law(0);
        for (int block = 0; block < 6; block++) {
            List<Integer> heads = new ArrayList<>();
            for (int band = 0; band < 4; band++) {
                for (int n = 0; n < cells[block][band]; n++) {
                    heads.add(AGES[band]);
                }
            }
            for (int done = 0; done < heads.size(); done += 12) {
                int size = Math.min(12, heads.size() - done);
                int door = census.door(block, 0, 1);
                census.row(1, 2, size);
                for (int i = 0; i < size; i++) {
                    census.set(1, i, heads.get(done + i));
                }
                census.truth(door, 1);
                census.knock(door, 0);
            }
        }
        census.fill();
        return census.status(17) == 0 ? census : null;
    }

    private void check(int[][] cells, int least) {
        CensusNight census = censusOf(cells, least);
        if (census != null) {
            compare(census, cells, least);
        }
    }

    /** A table in place of an older one, after heads were struck. */
    private void checkAgain(int[][] cells, int least, Random random) {
        CensusNight census = censusOf(cells, least);
        if (census == null || census.status(0) < 2) {
            return;
        }
        for (int again = 0; again < 2; again++) {
            census.table();
            for (int n = 0; n < 8; n++) {
                int one = random.nextInt(census.status(0));
                int another = random.nextInt(census.status(0));
                census.twice(one, random.nextInt(1 + census.about(one, 2)), another,
                        random.nextInt(1 + census.about(another, 2)));
            }
        }
        int[][] left = new int[6][4];
        for (int cell = 0; cell < 24; cell++) {
            left[cell / 4][cell % 4] = census.count(cell / 4, cell % 4, true);
        }
        compare(census, left, least);
    }

    private void compare(CensusNight census, int[][] cells, int least) {
        Set<Integer> hidden = PlainTables.hide(cells, least);
        String name = Arrays.deepToString(cells) + " by " + least;
        due.eq("table() of " + name, census.table(), hidden == null ? -6 : hidden.size());
        for (int cell = 0; cell < 24 && hidden != null; cell++) {
            int number = cells[cell / 4][cell % 4];
            boolean is = hidden.contains(cell);
            due.eq("told " + cell + " of " + name, census.told(cell / 4, cell % 4), is ? -2 : number);
            List<Integer> values = is ? PlainTables.possible(cells, hidden, cell) : List.of(number);
            due.eq("least " + cell + " of " + name, census.could(cell / 4, cell % 4, false), values.get(0));
            due.eq("most " + cell + " of " + name, census.could(cell / 4, cell % 4, true),
                    values.get(values.size() - 1));
        }
    }

    /** What the class tells is all that this looks at, as anybody could who has the table in hand. */
    private void checkByAllTables(int[][] cells, int least) {
        CensusNight census = censusOf(cells, least);
        if (census == null || census.table() < 0 || census.table() > 9) {
            return;
        }
        List<Integer> hidden = new ArrayList<>();
        int[] rows = new int[6];
        int[] columns = new int[4];
        for (int r = 0; r < 6; r++) {
            rows[r] = census.told(r, 4);
        }
        for (int c = 0; c < 4; c++) {
            columns[c] = census.told(6, c);
        }
        for (int cell = 0; cell < 24; cell++) {
            int told = census.told(cell / 4, cell % 4);
            if (told == -2) {
                hidden.add(cell);
            } else {
                rows[cell / 4] -= told;
                columns[cell % 4] -= told;
            }
        }
        List<Set<Integer>> seen = new ArrayList<>();
        hidden.forEach(cell -> seen.add(new TreeSet<>()));
        everyTable(hidden, 0, rows, columns, new int[hidden.size()], seen);
        for (int h = 0; h < hidden.size(); h++) {
            int cell = hidden.get(h);
            TreeSet<Integer> values = (TreeSet<Integer>) seen.get(h);
            String name = cell + " of " + Arrays.deepToString(cells);
            due.eq("least " + name, census.could(cell / 4, cell % 4, false), values.first());
            due.eq("most " + name, census.could(cell / 4, cell % 4, true), values.last());
            int number = cells[cell / 4][cell % 4];
            boolean small = number > 0 && number < least;
            due.yes("small and follows: " + name, !small || values.size() > 1);
        }
    }

    private static void everyTable(List<Integer> hidden, int at, int[] rows, int[] columns, int[] numbers,
            List<Set<Integer>> seen) {
        if (at == hidden.size()) {
            if (Arrays.stream(rows).allMatch(n -> n == 0) && Arrays.stream(columns).allMatch(n -> n == 0)) {
                for (int h = 0; h < numbers.length; h++) {
                    seen.get(h).add(numbers[h]);
                }
            }
            return;
        }
        int row = hidden.get(at) / 4;
        int column = hidden.get(at) % 4;
        int most = Math.min(rows[row], columns[column]);
        for (int number = 0; number <= most; number++) {
            numbers[at] = number;
            rows[row] -= number;
            columns[column] -= number;
            everyTable(hidden, at + 1, rows, columns, numbers, seen);
            rows[row] += number;
            columns[column] += number;
        }
    }
}
