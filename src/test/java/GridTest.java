import java.util.ArrayList;
import java.util.List;

/**
 * Every call with edges in all of its places at once, against the model: on a new object, on one that is in
 * use, and on one that is full. The promise of a call stands ahead of its name.
 */
public final class GridTest {
    private static final int MAX = Integer.MAX_VALUE;
    private static final int MIN = Integer.MIN_VALUE;
    private static final int MOST_CALLS = 512;
    private static final Check check = new Check("GridTest");

    private static final int[] POINTS = {MIN, -1, 0, 1, 2, 3, 4, 5, 6, MAX};
    private static final int[] SIDES = {MIN, -1, 0, 1, 2, 3, MAX};
    private static final int[] PLACES = {MIN, -1, 0, 1, 3, 4, MAX};
    private static final int[] SHAPES = {MIN, -1, 0, 1, 2, 3, 4, 5, 6, 7, 8, 9, 10, MAX};
    private static final int[] COUNTS = {MIN, -1, 0, 1, 2, 3, 4, 5, 6, 9, 10, 11, 14, 15, 39, 40, 41, 47, 48, MAX};
    private static final int[] NUMBERS = {-31, -30, 0, 30, 31, MAX};
    private static final int[] MULTIPLES = {-10, -9, 9, 10};
    private static final int[] WHOLES = {MIN, -100, -99, 99, 100};
    private static final int[] ROWS = {MIN, -1, 0, 1, 10, 21, 210, 999999999, MAX};

    private final List<String> way;
    private RunLaws real;
    private Model model;
    private int calls;
    private boolean isChanged;

    private GridTest(List<String> way) {
        this.way = way;
    }

    public static void main(String[] args) {
        List<String> used = new ArrayList<>(List.of("point(2)", "point(1)", "point(4)", "split(0, 0, 2)",
            "read(0, 1, 2, 0, 0)", "read(0, 2, 4, 0, 0)", "read(0, 3, 6, 0, 0)", "read(1, 5, 0, 0, 0)", "act(0, 0)",
            "act(0, 1)", "act(1, 2)", "makes(0, 0, 1, 0, 0, 0, 1)", "makes(0, 1, 0, 1, 0, 0, 2)",
            "makes(1, 0, 1, 1, 0, 0, 0)", "makes(2, 3, 1, 0, 0, 0, 0)", "start(0, 1, 2, 0, 0)", "search(5)",
            "read(2, 1, 1, 2, 3)", "read(2, 3, 2, 1, 0)"));
        List<String> full = new ArrayList<>(used);
        full.addAll(List.of("point(3)", "point(4)", "point(1)"));
        for (int a = 3; a < 10; a++) {
            full.add("act(" + a % 4 + ", " + a % 3 + ")");
        }
        for (int r = 0; r < 37; r++) {
            full.add("read(0, " + (r % 5 - 2) + ", " + (2 * (r % 5) - 4) + ", 0, 0)");
        }
        for (int r = 0; r < 40; r++) {
            full.add("read(3, " + r % 2 + ", 7, " + -r % 3 + ", 0)");
        }
        full.addAll(List.of("split(3, 2, 0)", "read(2, -30, 30, -30, 30)"));
        for (List<String> way : List.of(List.<String>of(), used, full)) {
            new GridTest(way).all();
        }
        check.end();
    }

    private void all() {
        asked();
        changing();
    }

    /** Calls that change nothing share an object, as long as it has calls left. */
    private void asked() {
        grid(5, "died", false, COUNTS);
        grid(6, "reading", false, POINTS, COUNTS, PLACES);
        grid(7, "tried", false, POINTS, SIDES);
        grid(8, "holds", false, POINTS, SIDES, SHAPES, PLACES, PLACES);
        grid(9, "number", false, POINTS, SIDES, SHAPES, PLACES, PLACES);
        grid(10, "guesses", false, POINTS, SIDES);
        grid(11, "guess", false, POINTS, SIDES, COUNTS);
        grid(12, "sums", false, POINTS, SIDES);
        grid(13, "sum", false, POINTS, SIDES, PLACES, COUNTS);
        grid(17, "made", false, COUNTS, PLACES, COUNTS);
        grid(18, "kept", false);
        grid(20, "broke", false, COUNTS);
        grid(22, "told", false, COUNTS);
        grid(23, "variables", false, POINTS);
    }

    /** A call that changed something is the last of its object; what was refused has changed nothing. */
    private void changing() {
        int[] few = {-1, 0, 1, 4};
        grid(2, "point", true, COUNTS);
        grid(3, "split", true, POINTS, PLACES, NUMBERS);
        grid(4, "read", true, few, NUMBERS, NUMBERS, new int[] {0, 31}, new int[] {0, MIN});
        grid(4, "read", true, new int[] {2, 3}, new int[] {0, 31}, new int[] {0, MIN}, NUMBERS, NUMBERS);
        grid(14, "start", true, few, NUMBERS, NUMBERS, new int[] {0, 31}, new int[] {0, MIN});
        grid(14, "start", true, new int[] {2, 3}, new int[] {0, 31}, new int[] {0, MIN}, NUMBERS, NUMBERS);
        grid(15, "act", true, POINTS, POINTS);
        int[] acts = {-1, 0, 2, 9, 10};
        int[] one = {0};
        grid(16, "makes", true, acts, few, MULTIPLES, MULTIPLES, one, one, WHOLES);
        grid(16, "makes", true, acts, few, one, one, MULTIPLES, MULTIPLES, WHOLES);
        grid(19, "search", true, PLACES);
        grid(21, "run", true, ROWS, COUNTS);
    }

    /** The call with each number of each of its places. */
    private void grid(int promise, String name, boolean changes, int[]... places) {
        int total = 1;
        for (int[] numbers : places) {
            total *= numbers.length;
        }
        real = null;
        for (int n = 0; n < total; n++) {
            StringBuilder call = new StringBuilder(name).append('(');
            int rest = n;
            for (int place = 0; place < places.length; place++) {
                call.append(place == 0 ? "" : ", ").append(places[place][rest % places[place].length]);
                rest /= places[place].length;
            }
            if (real == null || isChanged || calls == MOST_CALLS) {
                arrive();
            }
            long answer = same(promise, call.append(')').toString());
            isChanged = changes && answer >= 0;
        }
    }

    private void arrive() {
        real = new RunLaws();
        model = new Model();
        calls = way.size();
        isChanged = false;
        for (String call : way) {
            check.due("the way: " + call, Calls.on(real, call), Calls.on(model, call));
        }
    }

    private long same(int promise, String call) {
        calls++;
        long due = Calls.on(model, call);
        check.due(promise + ": after " + way.size() + " calls " + call, Calls.on(real, call), due);
        return due;
    }
}
