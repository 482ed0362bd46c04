import java.util.ArrayDeque;
import java.util.ArrayList;
import java.util.Arrays;
import java.util.List;
import java.util.Set;
import java.util.TreeSet;

/**
 * The document once more, in the plainest way and without a thought for speed or for LANGUAGE.md:
 * what the class answers is compared with this. It shares no code and no method with the class.
 */
final class PlainCensus {
    private static final class Refusal extends RuntimeException {
        final int number;

        Refusal(int number) {
            super(null, null, false, false);
            this.number = number;
        }
    }

    private static final class Head {
        final Integer age;
        boolean struck;

        Head(Integer age) {
            this.age = age;
        }

        int band() {
            if (age == null) {
                return 3;
            }
            return age < 18 ? 0 : age < 65 ? 1 : 2;
        }
    }

    private static final class Home {
        int number;
        int block;
        int like;
        int hours;
        List<Integer> truth = new ArrayList<>();
        String kind = "none";
        List<Head> heads = new ArrayList<>();
        int knocks;
        int gave;
        Home giver;
        Integer second;

        boolean open() {
            return kind.equals("none") || kind.equals("broken") || kind.equals("proxy");
        }

        List<Head> counted() {
            List<Head> list = new ArrayList<>();
            for (Head head : heads) {
                if (!head.struck) {
                    list.add(head);
                }
            }
            return list;
        }
    }

    private static final class Line {
        int sort;
        long[] values;

        int asInt(int i) {
            return (int) values[i];
        }
    }

    private static final class Tried {
        int like;
        int hour;
        boolean answered;
    }

    private final List<Home> homes = new ArrayList<>();
    private final Object[] shelves = new Object[8];
    private final boolean[][] near = new boolean[6][6];
    private final int[] refusals = new int[8];
    private final List<Tried> tries = new ArrayList<>();
    private final Set<Integer> seconds = new TreeSet<>();
    private int k = 3;
    private int p = 2;
    private int c = 3;
    private int fault = -1;
    private boolean closed;
    private int[] walkOf = {-1, -1, -1, -1, -1, -1};
    private int[][] table;
    private Set<Integer> hidden;

    private static void need(boolean fine, int number) {
        if (!fine) {
            throw new Refusal(number);
        }
    }

    private interface Body {
        long answer();
    }

    private long guarded(Body body) {
        try {
            return body.answer();
        } catch (Refusal refusal) {
            refusals[-refusal.number]++;
            return refusal.number;
        }
    }

    private Home home(int d) {
        need(d >= 0 && d < homes.size(), -1);
        return homes.get(d);
    }

    private void shelf(int s) {
        need(s >= 0 && s < 8, -1);
    }

    private void block(int b) {
        need(b >= 0 && b < 6, -1);
    }

    private Line line(int s) {
        need(!(shelves[s] instanceof Home), -2);
        need(shelves[s] != null, -3);
        return (Line) shelves[s];
    }

    long door(int block, int like, int hours) {
        return guarded(() -> {
            block(block);
            need(like >= 0 && like <= 3 && hours >= 0 && hours <= 1023 && !closed, -6);
            need(homes.size() < 24, -7);
            Home home = new Home();
            home.number = homes.size();
            home.block = block;
            home.like = like;
            home.hours = hours;
            homes.add(home);
            return home.number;
        });
    }

    long near(int a, int b) {
        return guarded(() -> {
            block(a);
            block(b);
            need(a != b, -6);
            boolean was = near[a][b];
            near[a][b] = true;
            near[b][a] = true;
            return was ? 0 : 1;
        });
    }

    long row(int s, int sort, int n) {
        return guarded(() -> {
            shelf(s);
            need(n >= 0, -4);
            need(sort >= 0 && sort <= 3, -6);
            need(n <= 30, -7);
            Line line = new Line();
            line.sort = sort;
            line.values = new long[n];
            shelves[s] = line;
            return 1;
        });
    }

    long set(int s, int i, long v) {
        return guarded(() -> {
            shelf(s);
            Line line = line(s);
            need(i >= 0 && i < line.values.length, -5);
            int gone = new int[] {56, 48, 32, 0}[line.sort];
            line.values[i] = v << gone >> gone;
            return 1;
        });
    }

    long copy(int a, int b, int i, int j, int n) {
        return guarded(() -> {
            shelf(a);
            shelf(b);
            need(!(shelves[a] instanceof Home) && !(shelves[b] instanceof Home), -2);
            if (shelves[a] != null && shelves[b] != null) {
                need(((Line) shelves[a]).sort == ((Line) shelves[b]).sort, -2);
            }
            need(shelves[a] != null && shelves[b] != null, -3);
            need(n >= 0, -4);
            long[] source = ((Line) shelves[a]).values.clone();
            long[] goal = ((Line) shelves[b]).values;
            need(i >= 0 && j >= 0, -5);
            need((long) i + n <= source.length && (long) j + n <= goal.length, -5);
            for (int x = 0; x < n; x++) {
                goal[j + x] = source[i + x];
            }
            return 1;
        });
    }

    long element(int s, int i) {
        if (s < 0 || s > 7 || !(shelves[s] instanceof Line line)) {
            return 0;
        }
        return i >= 0 && i < line.values.length ? line.values[i] : 0;
    }

    long show(int s, int door) {
        return guarded(() -> {
            shelf(s);
            shelves[s] = door == -1 ? null : home(door);
            return door == -1 ? 0 : 1;
        });
    }

    long holds(int s) {
        if (s < 0 || s > 7 || shelves[s] == null) {
            return -1;
        }
        return shelves[s] instanceof Home home ? home.number : 100 + ((Line) shelves[s]).sort;
    }

    long blockIn(int s) {
        return guarded(() -> {
            shelf(s);
            need(!(shelves[s] instanceof Line), -2);
            need(shelves[s] != null, -3);
            return ((Home) shelves[s]).block;
        });
    }

    long law(int s) {
        return guarded(() -> {
            shelf(s);
            Line line = line(s);
            String[] may = {"k", "123456789", "p", "123456789", "c", "23456789"};
            fault = -1;
            for (int i = 0; fault == -1 && i < Math.max(6, line.values.length); i++) {
                boolean there = i < line.values.length && i < 6 && line.asInt(i) >= 0 && line.asInt(i) < 128;
                if (!there || may[i].indexOf(line.asInt(i)) < 0) {
                    fault = i;
                }
            }
            need(fault == -1, -6);
            k = line.asInt(1) - 48;
            p = line.asInt(3) - 48;
            c = line.asInt(5) - 48;
            return 1;
        });
    }

    long fault() {
        return fault;
    }

    long truth(int door, int s) {
        return guarded(() -> {
            Home home = home(door);
            shelf(s);
            Line line = line(s);
            need(!closed, -6);
            need(line.values.length <= 12, -7);
            home.truth = new ArrayList<>();
            long[] least = {Byte.MIN_VALUE, Short.MIN_VALUE, Integer.MIN_VALUE, Long.MIN_VALUE};
            for (int i = 0; i < line.values.length; i++) {
                int age = line.asInt(i);
                boolean told = age >= 0 && age <= 110 && line.values[i] != least[line.sort];
                home.truth.add(told ? age : null);
            }
            return home.truth.size();
        });
    }

    long paper(int door) {
        return guarded(() -> {
            Home home = home(door);
            need(!closed && home.open() && !home.kind.equals("broken"), -6);
            int hole = home.truth.indexOf(null);
            home.kind = hole < 0 ? "whole" : "broken";
            home.heads = new ArrayList<>();
            for (Integer age : hole < 0 ? home.truth : home.truth.subList(0, hole)) {
                home.heads.add(new Head(age));
            }
            return home.heads.size();
        });
    }

    long knock(int door, int hour) {
        return guarded(() -> {
            Home home = home(door);
            need(hour >= 0 && hour <= 9 && !closed && home.open() && home.knocks < k, -6);
            Tried tried = new Tried();
            tried.like = home.like;
            tried.hour = hour;
            tried.answered = (home.hours & 1 << hour) != 0;
            tries.add(tried);
            home.knocks++;
            if (tried.answered) {
                home.kind = "knock";
                home.heads = new ArrayList<>();
                for (Integer age : home.truth) {
                    home.heads.add(new Head(age));
                }
            }
            return tried.answered ? 1 : 0;
        });
    }

    long proxy(int door, int n) {
        return guarded(() -> {
            Home home = home(door);
            need(n >= 0 && n <= 12 && !closed && home.open(), -6);
            need(!home.kind.equals("proxy") && home.knocks >= p, -6);
            home.kind = "proxy";
            home.heads = new ArrayList<>();
            for (int i = 0; i < n; i++) {
                home.heads.add(new Head(null));
            }
            return n;
        });
    }

    long twice(int a, int i, int b, int j) {
        return guarded(() -> {
            Home one = home(a);
            Home two = home(b);
            need(i >= 0 && i < one.heads.size() && j >= 0 && j < two.heads.size(), -5);
            need(one != two && !one.heads.get(i).struck && !two.heads.get(j).struck, -6);
            need(!one.kind.equals("filled") && !two.kind.equals("filled"), -6);
            Head doomed = a > b ? one.heads.get(i) : two.heads.get(j);
            doomed.struck = true;
            return Math.max(a, b);
        });
    }

    long fill() {
        return guarded(() -> {
            need(!closed, -6);
            closed = true;
            int filled = 0;
            for (Home home : homes) {
                if (home.kind.equals("none")) {
                    Home giver = nearestGiver(home);
                    if (giver != null) {
                        home.kind = "filled";
                        home.giver = giver;
                        giver.gave++;
                        for (Head head : giver.counted()) {
                            home.heads.add(new Head(head.age));
                        }
                        filled++;
                    }
                }
            }
            return filled;
        });
    }

    private Home nearestGiver(Home home) {
        for (int far = 1; far < 24; far++) {
            for (int number : new int[] {home.number - far, home.number + far}) {
                if (number >= 0 && number < homes.size()) {
                    Home giver = homes.get(number);
                    boolean sure = giver.kind.equals("whole") || giver.kind.equals("knock");
                    if (sure && giver.like == home.like && giver.gave < 2) {
                        return giver;
                    }
                }
            }
        }
        return null;
    }

    private boolean isHome(int door) {
        return door >= 0 && door < homes.size();
    }

    long from(int door) {
        return isHome(door) && homes.get(door).giver != null ? homes.get(door).giver.number : -1;
    }

    long about(int door, int what) {
        if (!isHome(door) || what < 0 || what > 5) {
            return -1;
        }
        Home home = homes.get(door);
        List<String> kinds = List.of("none", "whole", "knock", "proxy", "filled");
        int kind = home.kind.equals("broken") ? 1 : kinds.indexOf(home.kind);
        int broken = home.kind.equals("broken") ? 1 : 0;
        int struck = home.heads.size() - home.counted().size();
        return new int[] {kind, broken, home.heads.size(), struck, home.knocks, home.gave}[what];
    }

    long age(int door, int i) {
        if (!isHome(door) || i < 0 || i >= homes.get(door).heads.size()) {
            return -1;
        }
        Integer age = homes.get(door).heads.get(i).age;
        return age == null ? -2 : age;
    }

    long count(int block, int band, boolean with) {
        if (block < 0 || block > 5 || band < 0 || band > 3) {
            return -1;
        }
        int sum = 0;
        for (Home home : homes) {
            if (home.block == block && (with || !home.kind.equals("filled"))) {
                for (Head head : home.counted()) {
                    sum += head.band() == band ? 1 : 0;
                }
            }
        }
        return sum;
    }

    long bestHour(int like) {
        if (like < 0 || like > 3) {
            return -1;
        }
        int best = -1;
        double greatest = -1;
        for (int hour = 0; hour < 10; hour++) {
            int asked = 0;
            int answers = 0;
            for (Tried tried : tries) {
                if (tried.like == like && tried.hour == hour) {
                    asked++;
                    answers += tried.answered ? 1 : 0;
                }
            }
            double chance = (answers + 1.0) / (asked + 2.0);
            if (chance > greatest + 1e-9) {
                greatest = chance;
                best = hour;
            }
        }
        return best;
    }

    long cut(int limit) {
        return guarded(() -> {
            need(limit >= 0 && limit <= 24, -6);
            List<Integer> blocks = new ArrayList<>();
            for (int b = 0; b < 6; b++) {
                int block = b;
                if (homes.stream().anyMatch(home -> home.block == block)) {
                    blocks.add(b);
                }
            }
            List<int[]> ways = new ArrayList<>();
            allWays(blocks, 0, new ArrayList<>(), limit, ways);
            need(!ways.isEmpty(), -6);
            ways.sort((x, y) -> Arrays.compare(x, y));
            walkOf = Arrays.copyOfRange(ways.get(0), 2, 8);
            return ways.get(0)[0];
        });
    }

    /** A way is: how many walks, the greatest work, and the walk of each of the six blocks. */
    private void allWays(List<Integer> blocks, int at, List<List<Integer>> walks, int limit, List<int[]> ways) {
        if (at == blocks.size()) {
            int[] way = {walks.size(), 0, -1, -1, -1, -1, -1, -1};
            for (int w = 0; w < walks.size(); w++) {
                int work = 0;
                for (Home home : homes) {
                    work += walks.get(w).contains(home.block) && home.open() ? 1 : 0;
                }
                if (work > limit || !together(walks.get(w))) {
                    return;
                }
                way[1] = Math.max(way[1], work);
                for (int b : walks.get(w)) {
                    way[2 + b] = w;
                }
            }
            ways.add(way);
            return;
        }
        for (int w = 0; w <= walks.size(); w++) {
            List<List<Integer>> more = new ArrayList<>();
            walks.forEach(walk -> more.add(new ArrayList<>(walk)));
            if (w == walks.size()) {
                more.add(new ArrayList<>());
            }
            more.get(w).add(blocks.get(at));
            allWays(blocks, at + 1, more, limit, ways);
        }
    }

    private boolean together(List<Integer> walk) {
        Set<Integer> seen = new TreeSet<>();
        ArrayDeque<Integer> todo = new ArrayDeque<>();
        todo.add(walk.get(0));
        while (!todo.isEmpty()) {
            int b = todo.remove();
            if (seen.add(b)) {
                walk.stream().filter(o -> near[b][o]).forEach(todo::add);
            }
        }
        return seen.size() == walk.size();
    }

    long walk(int block) {
        return block < 0 || block > 5 ? -1 : walkOf[block];
    }

    long second(int block, int s) {
        return guarded(() -> {
            block(block);
            shelf(s);
            Line line = line(s);
            List<Home> mine = homes.stream().filter(home -> home.block == block).toList();
            need(line.values.length >= mine.size(), -5);
            int sum = 0;
            for (int i = 0; i < mine.size(); i++) {
                need(line.asInt(i) >= 0 && line.asInt(i) <= 99, -6);
                sum += line.asInt(i);
            }
            for (int i = 0; i < mine.size(); i++) {
                mine.get(i).second = line.asInt(i);
            }
            seconds.add(block);
            return sum;
        });
    }

    long right(boolean lower) {
        long all = 0;
        long second = 0;
        long both = 0;
        for (Home home : homes) {
            int counted = home.counted().size();
            all += counted;
            if (home.second != null) {
                second += home.second;
                both += Math.min(home.second, counted);
            }
        }
        if (both == 0) {
            return lower ? 1 : 0;
        }
        long upper = all * second;
        for (long by = both; by > 1; by--) {
            if (upper % by == 0 && both % by == 0) {
                upper /= by;
                both /= by;
            }
        }
        return lower ? both : upper;
    }

    long heap() {
        int all = 0;
        int fives = 0;
        for (Home home : homes) {
            for (Head head : home.counted()) {
                if (head.age != null && head.age >= 23 && head.age <= 62) {
                    all++;
                    fives += head.age % 5 == 0 ? 1 : 0;
                }
            }
        }
        return all == 0 ? 100 : fives * 500 / all;
    }

    long table() {
        return guarded(() -> {
            need(closed, -6);
            int[][] cells = new int[6][4];
            for (int b = 0; b < 6; b++) {
                for (int band = 0; band < 4; band++) {
                    cells[b][band] = (int) count(b, band, true);
                }
            }
            Set<Integer> set = PlainTables.hide(cells, c);
            need(set != null, -6);
            table = cells;
            hidden = set;
            return hidden.size();
        });
    }

    long told(int row, int column) {
        if (table == null || row < 0 || row > 6 || column < 0 || column > 4) {
            return -1;
        }
        if (row < 6 && column < 4) {
            return hidden.contains(4 * row + column) ? -2 : table[row][column];
        }
        int sum = 0;
        for (int r = row == 6 ? 0 : row; r <= (row == 6 ? 5 : row); r++) {
            for (int i = column == 4 ? 0 : column; i <= (column == 4 ? 3 : column); i++) {
                sum += table[r][i];
            }
        }
        return sum;
    }

    long could(int row, int column, boolean most) {
        if (table == null || row < 0 || row > 5 || column < 0 || column > 3) {
            return -1;
        }
        if (!hidden.contains(4 * row + column)) {
            return table[row][column];
        }
        List<Integer> values = PlainTables.possible(table, hidden, 4 * row + column);
        return values.get(most ? values.size() - 1 : 0);
    }

    long status(int what) {
        if (what >= 11 && what <= 17) {
            return refusals[what - 10];
        }
        return switch (what) {
            case 0 -> homes.size();
            case 1 -> homes.stream().filter(home -> !home.kind.equals("none")).count();
            case 2 -> homes.stream().filter(home -> home.kind.equals("filled")).count();
            case 3 -> homes.stream().mapToInt(home -> home.counted().size()).sum();
            case 4 -> homes.stream().mapToInt(home -> home.heads.size() - home.counted().size()).sum();
            case 5 -> tries.size();
            case 6 -> tries.stream().filter(tried -> tried.answered).count();
            case 7 -> closed ? 1 : 0;
            case 8 -> homes.stream().filter(Home::open).count();
            case 9 -> seconds.size();
            case 18 -> k;
            case 19 -> p;
            case 20 -> c;
            default -> -1;
        };
    }
}
