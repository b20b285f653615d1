import java.util.ArrayList;
import java.util.List;

/**
 * "They change nothing": behind each refused call an object answers as one that never had it, to every
 * question that there is, and in what it does from there on. The first word of each case is its promise.
 */
public final class RefusalsTest {
    private static final int UNKNOWN = RunLaws.UNKNOWN;
    private static final int OUTSIDE = RunLaws.OUTSIDE;
    private static final int STATE = RunLaws.STATE;
    private static final int FULL = RunLaws.FULL;
    private static final int NONE = RunLaws.NONE;
    private static final Check check = new Check("RefusalsTest");

    /** What an object was led to, and how it answers there. */
    private final List<String> way;
    private final List<String> questions = questions();
    private final List<List<String>> goings = goings();
    private final long[] answers;
    private final List<long[]> gone = new ArrayList<>();

    private RefusalsTest(List<String> way) {
        this.way = way;
        answers = ask(null);
        for (List<String> going : goings) {
            gone.add(go(null, going));
        }
    }

    public static void main(String[] args) {
        ofNewObject();
        ofHalfFull();
        ofFull();
        check.end();
    }

    private static void ofNewObject() {
        RefusalsTest fresh = new RefusalsTest(List.of());
        fresh.refused(2, OUTSIDE, "point(0)", "point(5)", "point(MIN)");
        fresh.refused(3, UNKNOWN, "split(0, 0, 0)");
        fresh.refused(4, UNKNOWN, "read(0, 0, 0, 0, 0)");
        fresh.refused(8, UNKNOWN, "holds(0, 0, 0, 0, 0)");
        fresh.refused(14, UNKNOWN, "start(0, 0, 0, 0, 0)");
        fresh.refused(15, UNKNOWN, "act(0, 0)");
        fresh.refused(16, UNKNOWN, "makes(0, 0, 0, 0, 0, 0, 0)");
        fresh.refused(18, STATE, "kept()");
        fresh.refused(19, STATE, "search(0)", "search(5)");
        fresh.refused(19, OUTSIDE, "search(6)", "search(-1)");
        fresh.refused(21, STATE, "run(0, 0)", "run(0, 1)");
        fresh.refused(21, OUTSIDE, "run(0, 10)", "run(-1, 0)");
    }

    /** Three points with readings and a split, acts, a START, dead guesses, a search that found one. */
    private static List<String> halfFull() {
        List<String> way = new ArrayList<>(List.of("point(2)", "point(1)", "point(4)", "split(0, 0, 2)",
            "read(0, 1, 2, 0, 0)", "read(0, 2, 4, 0, 0)", "read(0, 3, 6, 0, 0)", "read(1, 5, 0, 0, 0)",
            "act(0, 0)", "act(0, 1)", "act(1, 2)", "makes(0, 0, 1, 0, 0, 0, 1)", "makes(0, 1, 0, 1, 0, 0, 2)",
            "makes(1, 0, 1, 1, 0, 0, 2)", "makes(2, 3, 1, 0, 0, 0, 30)", "start(0, 1, 2, 0, 0)", "search(5)",
            "read(2, 1, 1, 2, 3)", "read(2, 3, 2, 1, 0)"));
        return way;
    }

    private static void ofHalfFull() {
        RefusalsTest half = new RefusalsTest(halfFull());
        half.refused(2, OUTSIDE, "point(0)", "point(5)", "point(-1)", "point(MAX)", "point(MIN)");
        half.refused(3, UNKNOWN, "split(3, 0, 0)", "split(-1, 0, 0)", "split(0, 2, 0)", "split(0, -1, 0)",
            "split(1, 1, 30)");
        half.refused(3, OUTSIDE, "split(0, 1, 31)", "split(0, 1, -31)", "split(2, 3, MAX)", "split(2, 3, MIN)");
        half.refused(4, UNKNOWN, "read(3, 0, 0, 0, 0)", "read(-1, 0, 0, 0, 0)", "read(MAX, 0, 0, 0, 0)");
        half.refused(4, OUTSIDE, "read(0, 31, 0, 0, 0)", "read(0, 0, -31, 0, 0)", "read(1, 31, 0, 0, 0)",
            "read(2, 9, 9, 31, 9)", "read(2, 9, 9, 9, MIN)");
        half.refused(5, UNKNOWN, "died(-1)", "died(99)");
        half.refused(6, NONE, "reading(3, 0, 0)", "reading(0, 3, 0)", "reading(0, 0, 2)");
        half.refused(7, UNKNOWN, "tried(3, 0)", "tried(0, 3)");
        half.refused(8, UNKNOWN, "holds(3, 0, 0, 0, 0)", "holds(0, 3, 0, 0, 0)", "holds(0, 0, 5, 0, 2)");
        half.refused(8, OUTSIDE, "holds(0, 0, 10, 0, 0)", "holds(0, 0, 5, 1, 0)", "holds(0, 0, 6, 1, 1)");
        half.refused(9, -1000, "number(3, 0, 0, 0, 0)", "number(0, 0, 5, 0, 0)", "number(0, 0, 1, 0, 5)");
        half.refused(10, UNKNOWN, "guesses(3, 0)", "guesses(0, 3)");
        half.refused(11, UNKNOWN, "guess(3, 0, 0)", "guess(0, 0, 99)", "guess(0, 0, -1)");
        half.refused(12, UNKNOWN, "sums(3, 0)", "sums(0, 3)");
        half.refused(13, Long.MIN_VALUE, "sum(3, 0, 0, 0)", "sum(0, 0, 9, 0)", "sum(0, 0, 0, 3)");
        half.refused(14, UNKNOWN, "start(3, 0, 0, 0, 0)", "start(-1, 0, 0, 0, 0)");
        half.refused(14, OUTSIDE, "start(0, 31, 0, 0, 0)", "start(0, 5, -31, 0, 0)", "start(2, 7, 7, 7, 31)",
            "start(1, MIN, 0, 0, 0)");
        half.refused(15, UNKNOWN, "act(3, 0)", "act(0, 3)", "act(-1, 0)", "act(0, -1)");
        half.refused(16, UNKNOWN, "makes(3, 0, 1, 1, 1, 1, 1)", "makes(-1, 0, 1, 1, 1, 1, 1)",
            "makes(0, 2, 1, 1, 1, 1, 1)", "makes(1, 1, 1, 1, 1, 1, 1)", "makes(0, -1, 1, 1, 1, 1, 1)");
        half.refused(16, OUTSIDE, "makes(0, 0, 10, 1, 1, 1, 1)", "makes(0, 0, 5, -10, 1, 1, 1)",
            "makes(0, 0, 5, 5, 0, 0, 100)", "makes(0, 1, 5, 5, 0, 0, -100)");
        half.refused(17, UNKNOWN, "made(3, 0, 0)", "made(0, 2, 0)");
        half.refused(17, OUTSIDE, "made(0, 0, 5)", "made(0, 0, -1)");
        half.refused(19, OUTSIDE, "search(6)", "search(-1)", "search(MAX)");
        half.refused(19, NONE, "search(0)");
        half.refused(20, NONE, "broke(-1)", "broke(7)", "broke(15)");
        half.refused(21, OUTSIDE, "run(0, 10)", "run(0, -1)", "run(-1, 1)", "run(MIN, 0)");
        half.refused(21, UNKNOWN, "run(3, 1)", "run(2, 1)", "run(9000, 4)", "run(11, 2)");
        half.refused(21, NONE, "run(210, 3)", "run(21, 2)");
        half.refused(22, OUTSIDE, "told(4)", "told(-1)");
        half.refused(23, UNKNOWN, "variables(3)", "variables(-1)");
    }

    /** All points, acts and readings of one point that there may be. */
    private static void ofFull() {
        List<String> way = new ArrayList<>(halfFull());
        way.addAll(List.of("point(3)", "point(4)", "point(1)"));
        for (int a = 3; a < 10; a++) {
            way.add("act(0, 0)");
        }
        for (int r = 3; r < 39; r++) {
            way.add("read(0, " + r % 4 + ", " + 2 * (r % 4) + ", 0, 0)");
        }
        way.add("read(0, 0, 1, 0, 0)");
        RefusalsTest full = new RefusalsTest(way);
        full.refused(2, FULL, "point(1)", "point(4)");
        full.refused(2, OUTSIDE, "point(0)", "point(5)");
        full.refused(4, FULL, "read(0, 0, 0, 0, 0)", "read(0, 30, -30, 0, 0)", "read(0, 3, 6, MAX, MAX)");
        full.refused(4, OUTSIDE, "read(0, 31, 0, 0, 0)");
        full.refused(4, UNKNOWN, "read(6, 0, 0, 0, 0)");
        full.refused(15, FULL, "act(0, 0)", "act(5, 4)");
        full.refused(15, UNKNOWN, "act(6, 0)", "act(0, 6)");
        full.refused(16, UNKNOWN, "makes(10, 0, 1, 1, 1, 1, 1)");
        full.refused(21, FULL, "run(0, 0)", "run(0, 1)", "run(3, 1)");
        full.refused(21, UNKNOWN, "run(2, 1)");
        full.refused(21, OUTSIDE, "run(0, 10)");
    }

    private void refused(int promise, long due, String... calls) {
        for (String call : calls) {
            String name = promise + ": \"They change nothing.\": " + call;
            Run run = arrive(name);
            check.due(name, run.answer(call), due);
            compare(name, questions, answers, ask(call));
            for (int g = 0; g < goings.size(); g++) {
                compare(name, goings.get(g), gone.get(g), go(call, goings.get(g)));
            }
        }
    }

    private static void compare(String name, List<String> calls, long[] want, long[] got) {
        for (int q = 0; q < want.length; q++) {
            check.due(name + ", then " + calls.get(q), got[q], want[q]);
        }
    }

    private Run arrive(String name) {
        return new Run(check, name).after(way.toArray(new String[0]));
    }

    /** The answers to all questions; a new object whenever the calls of one are used up. */
    private long[] ask(String refused) {
        long[] given = new long[questions.size()];
        Run run = null;
        for (int q = 0; q < given.length; q++) {
            if (run == null || run.calls() == Run.MOST_CALLS) {
                run = arriveAndCall(refused);
            }
            given[q] = run.answer(questions.get(q));
        }
        return given;
    }

    private Run arriveAndCall(String refused) {
        Run run = arrive("the way");
        if (refused != null) {
            // Twice: a count that a refused call moves may come back to where it was by chance.
            run.answer(refused);
            run.answer(refused);
        }
        return run;
    }

    private long[] go(String refused, List<String> going) {
        Run run = arriveAndCall(refused);
        long[] given = new long[going.size()];
        for (int q = 0; q < given.length; q++) {
            given[q] = run.answer(going.get(q));
        }
        return given;
    }

    private static List<String> questions() {
        List<String> all = new ArrayList<>();
        all.add("kept()");
        for (int n = 0; n < 50; n++) {
            all.add("told(" + n % 4 + ")");
            all.add("died(" + n + ")");
            all.add("broke(" + n % 16 + ")");
            all.add("variables(" + n % 6 + ")");
            all.add("reading(0, " + n + ", " + n % 2 + ")");
            all.add("made(" + n / 5 + ", 0, " + n % 5 + ")");
            all.add("made(" + n / 5 + ", 1, " + n % 5 + ")");
            all.add("made(" + n / 5 + ", 3, " + n % 5 + ")");
        }
        for (int p = 0; p < 3; p++) {
            for (int side = 0; side < 3; side++) {
                ofSide(all, p + ", " + side);
            }
        }
        return all;
    }

    private static void ofSide(List<String> all, String of) {
        all.add("tried(" + of + ")");
        all.add("guesses(" + of + ")");
        all.add("sums(" + of + ")");
        for (int k = 0; k < 20; k++) {
            all.add("guess(" + of + ", " + k + ")");
            all.add("sum(" + of + ", " + k / 5 + ", " + k % 5 + ")");
            all.add("holds(" + of + ", " + k / 2 + ", " + k % 2 + ", " + (1 - k % 2) + ")");
            all.add("number(" + of + ", " + k / 4 + ", " + k % 2 + ", " + k / 2 % 2 + ")");
            all.add("number(" + of + ", 1, " + k % 4 + ", " + k % 5 + ")");
        }
    }

    /** What may be done from there on, with what it then tells. */
    private static List<List<String>> goings() {
        return List.of(
            List.of("search(2)", "broke(0)", "broke(1)", "broke(2)", "broke(3)", "broke(10)", "broke(11)"),
            List.of("search(5)", "broke(0)", "broke(1)", "broke(2)", "broke(3)", "broke(10)", "broke(14)"),
            List.of("run(0, 0)", "told(3)", "died(0)", "reading(0, 3, 0)", "reading(0, 3, 1)", "tried(0, 1)"),
            List.of("run(10, 2)", "told(3)", "died(0)", "died(1)", "reading(1, 1, 0)", "tried(1, 0)"),
            List.of("read(0, 9, -9, 0, 0)", "told(3)", "died(0)", "died(5)", "tried(0, 0)", "tried(0, 1)"),
            List.of("read(2, 0, 0, 0, 0)", "told(3)", "died(0)", "died(5)", "tried(2, 0)", "tried(2, 1)"),
            List.of("point(2)", "told(0)", "variables(3)", "tried(3, 0)", "point(1)", "variables(4)"),
            List.of("act(1, 0)", "told(1)", "made(3, 0, 0)", "made(3, 1, 4)", "act(0, 1)"),
            List.of("split(0, 1, 3)", "tried(0, 1)", "tried(0, 2)", "sums(0, 1)", "guesses(0, 2)"),
            List.of("makes(0, 0, 2, 0, 0, 0, 1)", "made(0, 0, 0)", "kept()", "search(3)"),
            List.of("start(0, 2, 4, 0, 0)", "kept()", "search(3)", "run(0, 1)"));
    }
}
