import java.util.ArrayList;
import java.util.List;
import java.util.Map;
import java.util.regex.Matcher;
import java.util.regex.Pattern;

/**
 * A run of calls on one new object, written as text, a line each:
 * <pre>
 * door(0, 3, 1023) = 0          the answer that is due
 * holds({0..7}) = -1            the call with each of these numbers; more answers may stand, one for each
 * door({-1 6 MAX}, 0, 0) ! -1   a refusal: nothing changes by it but how many there were
 * near(0, 1)                    sets the stage: any answer but a refusal
 * 9 times knock(0, 1) = 0       again and again
 * law k3p2c3                    becomes the law (shelf 7 is used)
 * row 0 2: 5 -1 2^31            shelf 0 holds a row of sort 2 with these elements
 * home 0 1 1023: 40 12          a door of block 0, like 1, hours 1023, and who lives there (shelf 6 is used)
 * knocked 0 1: 40 12            the same, always in, and a knock was answered
 * cells 2: 4 0 1 3              knocked doors of block 2, like 0, with so many heads of each band
 * </pre>
 * Numbers: MIN and MAX are the ends of int, LMIN and LMAX those of long, 2^n, 'c', and sums such as MAX-1.
 */
final class Script {
    private static final Pattern CALL = Pattern.compile("(\\w+)\\(([^)]*)\\)\\s*(?:([=!])\\s*(.*))?");
    private static final Pattern TIMES = Pattern.compile("(\\d+) times (.*)");
    private static final long[] AGES = {10, 30, 70, -1};

    private final Due due;
    private final CensusNight census = new CensusNight();
    private final List<Call> run = new ArrayList<>();

    private Script(Due due) {
        this.due = due;
    }

    static void play(Due due, String text) {
        Script script = new Script(due);
        for (String line : text.split("\n")) {
            if (!line.isBlank()) {
                script.line(line.strip());
            }
        }
        due.yes("within 512 calls, not " + script.run.size(), script.run.size() <= Sight.MOST_CALLS);
    }

    private void line(String line) {
        Matcher times = TIMES.matcher(line);
        if (times.matches()) {
            for (int n = Integer.parseInt(times.group(1)); n > 0; n--) {
                line(times.group(2));
            }
            return;
        }
        Matcher call = CALL.matcher(line);
        if (call.matches()) {
            calls(call.group(1), call.group(2), call.group(3), call.group(4));
            return;
        }
        String[] halves = line.split(":", 2);
        String[] words = halves[0].split(" ");
        long[] rest = halves.length < 2 ? new long[0] : numbers(halves[1]);
        switch (words[0]) {
            case "law" -> law(words[1]);
            case "row" -> row(number(words[1]), number(words[2]), rest);
            case "home" -> home(number(words[1]), number(words[2]), number(words[3]), rest);
            case "knocked" -> knocked(number(words[1]), number(words[2]), rest);
            case "cells" -> cells(number(words[1]), rest);
            default -> throw new IllegalArgumentException("what is this: " + line);
        }
    }

    // ---- calls

    private void calls(String name, String arguments, String sign, String answers) {
        List<long[]> each = new ArrayList<>();
        spread(arguments.isBlank() ? new String[0] : arguments.split(","), new long[0], each);
        long[] wants = sign == null ? new long[0] : numbers(answers);
        if (wants.length > 1 && wants.length != each.size()) {
            throw new IllegalArgumentException(each.size() + " calls, but answers " + answers);
        }
        for (int n = 0; n < each.size(); n++) {
            Call call = new Call(name, each.get(n));
            if (sign == null) {
                stage(call);
            } else if (sign.equals("=")) {
                due.eq(told(call), make(call), wants[wants.length > 1 ? n : 0]);
            } else {
                refused(call, (int) wants[wants.length > 1 ? n : 0]);
            }
        }
    }

    private static void spread(String[] arguments, long[] given, List<long[]> each) {
        if (given.length == arguments.length) {
            each.add(given);
            return;
        }
        String argument = arguments[given.length].strip();
        boolean several = argument.startsWith("{") && argument.endsWith("}");
        for (long number : several ? numbers(argument.substring(1, argument.length() - 1)) : numbers(argument)) {
            long[] more = java.util.Arrays.copyOf(given, given.length + 1);
            more[given.length] = number;
            spread(arguments, more, each);
        }
    }

    private long make(Call call) {
        run.add(call);
        return call.put(census);
    }

    private String told(Call call) {
        return "call " + (run.size() + 1) + ", " + call;
    }

    private long stage(Call call) {
        String name = told(call);
        long got = make(call);
        due.yes(name + " should not be refused with " + got, got >= 0);
        return got;
    }

    private void refused(Call call, int want) {
        String name = told(call);
        Map<String, Long> before = Sight.of(run);
        due.eq(name, make(call), want);
        Map<String, Long> after = Sight.of(run);
        String counter = Call.of("status", 10 - want).toString();
        boolean faultMayChange = call.name().equals("law") && want == -6;
        for (Map.Entry<String, Long> entry : after.entrySet()) {
            String asked = entry.getKey();
            if (faultMayChange && asked.equals("fault()") || !before.containsKey(asked)) {
                continue;
            }
            long grown = asked.equals(counter) ? 1 : 0;
            due.eq(asked + " after the refused " + name, entry.getValue(), before.get(asked) + grown);
        }
    }

    // ---- stages

    private void law(String text) {
        long[] letters = text.chars().asLongStream().toArray();
        row(7, 0, letters);
        due.eq(told(Call.of("law", 7)), make(Call.of("law", 7)), 1);
    }

    private void row(long s, long sort, long... values) {
        stage(Call.of("row", s, sort, values.length));
        for (int i = 0; i < values.length; i++) {
            stage(Call.of("set", s, i, values[i]));
        }
    }

    private long home(long block, long like, long hours, long... ages) {
        long door = stage(Call.of("door", block, like, hours));
        row(6, 2, ages);
        stage(Call.of("truth", door, 6));
        return door;
    }

    private void knocked(long block, long like, long... ages) {
        long door = home(block, like, 1023, ages);
        due.eq("a knock is answered", make(Call.of("knock", door, 0)), 1);
    }

    private void cells(long block, long[] heads) {
        List<Long> ages = new ArrayList<>();
        for (int band = 0; band < 4; band++) {
            for (int n = 0; n < heads[band]; n++) {
                ages.add(AGES[band]);
            }
        }
        for (int done = 0; done < ages.size(); done += 12) {
            List<Long> some = ages.subList(done, Math.min(ages.size(), done + 12));
            knocked(block, 0, some.stream().mapToLong(age -> age).toArray());
        }
    }

    // ---- numbers

    private static long[] numbers(String text) {
        List<Long> list = new ArrayList<>();
        for (String word : text.strip().split("\\s+")) {
            int dots = word.indexOf("..");
            if (dots > 0) {
                for (long n = number(word.substring(0, dots)); n <= number(word.substring(dots + 2)); n++) {
                    list.add(n);
                }
            } else if (!word.isEmpty()) {
                list.add(number(word));
            }
        }
        return list.stream().mapToLong(n -> n).toArray();
    }

    private static long number(String word) {
        int plus = word.lastIndexOf('+');
        int minus = word.lastIndexOf('-');
        if (plus > 0) {
            return number(word.substring(0, plus)) + number(word.substring(plus + 1));
        }
        if (minus > 0) {
            return number(word.substring(0, minus)) - number(word.substring(minus + 1));
        }
        if (word.startsWith("2^")) {
            return 1L << Integer.parseInt(word.substring(2));
        }
        if (word.length() == 3 && word.charAt(0) == '\'') {
            return word.charAt(1);
        }
        return switch (word) {
            case "MIN" -> Integer.MIN_VALUE;
            case "MAX" -> Integer.MAX_VALUE;
            case "LMIN" -> Long.MIN_VALUE;
            case "LMAX" -> Long.MAX_VALUE;
            case "true" -> 1;
            case "false" -> 0;
            default -> Long.parseLong(word);
        };
    }
}
