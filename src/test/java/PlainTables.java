import java.util.ArrayList;
import java.util.List;
import java.util.Set;
import java.util.TreeSet;

/** Tables with told sums and hidden cells, by trying numbers: is there a table with this one there? */
final class PlainTables {
    private PlainTables() {
    }

    /** The first fitting set in the document's order; null if more than 4 others were needed. */
    static Set<Integer> hide(int[][] cells, int least) {
        Set<Integer> small = new TreeSet<>();
        for (int cell = 0; cell < 24; cell++) {
            int heads = cells[cell / 4][cell % 4];
            if (heads > 0 && heads < least) {
                small.add(cell);
            }
        }
        for (int others = 0; others <= 4; others++) {
            Set<Integer> found = hideMore(cells, small, new TreeSet<>(small), 0, others);
            if (found != null) {
                return found;
            }
        }
        return null;
    }

    private static Set<Integer> hideMore(int[][] cells, Set<Integer> small, Set<Integer> hidden, int first, int left) {
        if (left == 0) {
            return small.stream().allMatch(cell -> isFree(cells, hidden, cell)) ? hidden : null;
        }
        for (int cell = first; cell < 24; cell++) {
            if (!hidden.contains(cell)) {
                Set<Integer> more = new TreeSet<>(hidden);
                more.add(cell);
                Set<Integer> found = hideMore(cells, small, more, cell + 1, left - 1);
                if (found != null) {
                    return found;
                }
            }
        }
        return null;
    }

    private static boolean isFree(int[][] cells, Set<Integer> hidden, int cell) {
        int own = cells[cell / 4][cell % 4];
        for (int number = 0; number <= rowSum(cells, cell); number++) {
            if (number != own && fits(cells, hidden, cell, number)) {
                return true;
            }
        }
        return false;
    }

    private static int rowSum(int[][] cells, int cell) {
        int[] row = cells[cell / 4];
        return row[0] + row[1] + row[2] + row[3];
    }

    /** All numbers that the hidden cell has in some table, from the least on. */
    static List<Integer> possible(int[][] cells, Set<Integer> hidden, int cell) {
        List<Integer> numbers = new ArrayList<>();
        for (int number = 0; number <= rowSum(cells, cell); number++) {
            if (fits(cells, hidden, cell, number)) {
                numbers.add(number);
            }
        }
        return numbers;
    }

    /** Sends what the hidden cells of each row hold in sum to columns that lack it, one by one. */
    private static boolean fits(int[][] cells, Set<Integer> hidden, int cell, int number) {
        int[] rows = new int[6];
        int[] columns = new int[4];
        for (int h : hidden) {
            rows[h / 4] += cells[h / 4][h % 4];
            columns[h % 4] += cells[h / 4][h % 4];
        }
        rows[cell / 4] -= number;
        columns[cell % 4] -= number;
        if (rows[cell / 4] < 0 || columns[cell % 4] < 0) {
            return false;
        }
        int[][] sent = new int[6][4];
        for (int row = 0; row < 6; row++) {
            for (int one = 0; one < rows[row]; one++) {
                if (!send(hidden, cell, sent, columns, row, new boolean[6])) {
                    return false;
                }
            }
        }
        return true;
    }

    private static boolean send(Set<Integer> hidden, int barred, int[][] sent, int[] lack, int row, boolean[] seen) {
        seen[row] = true;
        for (int column = 0; column < 4; column++) {
            int way = 4 * row + column;
            if (way == barred || !hidden.contains(way)) {
                continue;
            }
            if (lack[column] > 0) {
                lack[column]--;
                sent[row][column]++;
                return true;
            }
            for (int other = 0; other < 6; other++) {
                if (!seen[other] && sent[other][column] > 0
                        && send(hidden, barred, sent, lack, other, seen)) {
                    sent[other][column]--;
                    sent[row][column]++;
                    return true;
                }
            }
        }
        return false;
    }
}
