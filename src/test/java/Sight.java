import java.util.ArrayList;
import java.util.LinkedHashMap;
import java.util.List;
import java.util.Map;

/**
 * All that can be seen of an object after a run of calls. What is asked is asked of objects on which the run
 * is made anew, so that none of them is used for more than the document's 512 calls, and so that calls that
 * change something can show what no other call tells (which blocks are near, who lives where).
 */
final class Sight {
    static final int MOST_CALLS = 512;

    private final List<Call> run;
    private final Map<String, Long> answers = new LinkedHashMap<>();

    private Sight(List<Call> run) {
        this.run = run;
    }

    /** Answers by what was asked; "after .." tells of calls that came ahead of it. */
    static Map<String, Long> of(List<Call> run) {
        Sight sight = new Sight(run);
        int doors = (int) Call.of("status", 0).put(sight.again());
        sight.askInParts(questions(doors));
        sight.askInTurn("near", nearCalls());
        sight.askInTurn("fill", fillCalls(doors));
        for (int d = 0; d < doors; d++) {
            sight.askInTurn("visit " + d, visitCalls(d));
        }
        return sight.answers;
    }

    private CensusNight again() {
        CensusNight census = new CensusNight();
        for (Call call : run) {
            call.put(census);
        }
        return census;
    }

    private void askInParts(List<Call> questions) {
        int part = MOST_CALLS - run.size();
        for (int done = 0; done < questions.size() && part > 0; done += part) {
            CensusNight census = again();
            for (Call call : questions.subList(done, Math.min(questions.size(), done + part))) {
                answers.put(call.toString(), call.put(census));
            }
        }
    }

    private void askInTurn(String name, List<Call> calls) {
        CensusNight census = again();
        for (int n = 0; n < calls.size() && run.size() + n < MOST_CALLS; n++) {
            answers.put("after " + name + " " + n + ": " + calls.get(n), calls.get(n).put(census));
        }
    }

    private static List<Call> questions(int doors) {
        List<Call> list = new ArrayList<>();
        addAll(list, "status", -1, 21);
        addAll(list, "fault");
        addAll(list, "heap");
        addAll(list, "right", 0, 1);
        addAll(list, "walk", 0, 5);
        addAll(list, "bestHour", 0, 3);
        addAll(list, "holds", 0, 7);
        addAll(list, "element", 0, 7, 0, 29);
        addAll(list, "from", 0, doors - 1);
        addAll(list, "about", 0, doors - 1, 0, 5);
        addAll(list, "age", 0, doors - 1, 0, 11);
        addAll(list, "count", 0, 5, 0, 3, 0, 1);
        addAll(list, "told", 0, 6, 0, 4);
        addAll(list, "could", 0, 5, 0, 3, 0, 1);
        return list;
    }

    /** The call with each number from the first end to the second, of one argument after another. */
    private static void addAll(List<Call> list, String name, int... ends) {
        addAll(list, name, ends, new long[ends.length / 2], 0);
    }

    private static void addAll(List<Call> list, String name, int[] ends, long[] given, int at) {
        if (at == given.length) {
            list.add(new Call(name, given.clone()));
            return;
        }
        for (int number = ends[2 * at]; number <= ends[2 * at + 1]; number++) {
            given[at] = number;
            addAll(list, name, ends, given, at + 1);
        }
    }

    private static List<Call> nearCalls() {
        List<Call> list = new ArrayList<>();
        for (int limit = 24; limit >= 0; limit -= 4) {
            list.add(Call.of("cut", limit));
            addAll(list, "walk", 0, 5);
        }
        for (int a = 0; a < 6; a++) {
            addAll(list, "near", a, a, 0, 5);
        }
        return list;
    }

    private static List<Call> fillCalls(int doors) {
        List<Call> list = new ArrayList<>();
        list.add(Call.of("fill"));
        list.add(Call.of("table"));
        addAll(list, "told", 0, 6, 0, 4);
        addAll(list, "from", 0, doors - 1);
        addAll(list, "right", 0, 1);
        return list;
    }

    /** Who lives at a door, at which hours, and how many knocks are left. */
    private static List<Call> visitCalls(int door) {
        List<Call> list = new ArrayList<>();
        list.add(Call.of("paper", door));
        addAll(list, "age", door, door, 0, 11);
        addAll(list, "knock", door, door, 0, 9);
        addAll(list, "age", door, door, 0, 11);
        list.add(Call.of("proxy", door, 1));
        addAll(list, "bestHour", 0, 3);
        return list;
    }
}
