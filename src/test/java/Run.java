import java.util.ArrayList;
import java.util.List;

/** One object, and a row of calls on it that tests one sentence of the document. */
final class Run {
    /** The document promises nothing of an object beyond so many calls. */
    static final int MOST_CALLS = 512;

    private final Check check;
    private final String sentence;
    private final RunLaws laws = new RunLaws();
    private int calls = 0;

    Run(Check check, String sentence) {
        this.check = check;
        this.sentence = sentence;
    }

    long answer(String call) {
        calls++;
        if (calls > MOST_CALLS) {
            throw new IllegalStateException(sentence + ": more calls than are promised");
        }
        return Calls.on(laws, call);
    }

    int calls() {
        return calls;
    }

    /** Calls that lead to where the test begins: none of them is refused. */
    Run after(String... made) {
        for (String call : made) {
            check.isTrue(sentence + ": " + call + " is taken", answer(call) >= 0);
        }
        return this;
    }

    Run times(int count, String call) {
        for (int n = 0; n < count; n++) {
            after(call);
        }
        return this;
    }

    Run due(String call, long want) {
        check.due(sentence + ": " + call, answer(call), want);
        return this;
    }

    /** The same answer of the call with each of these numbers in the place of its #. */
    Run each(String pattern, long want, int... numbers) {
        for (int number : numbers) {
            due(Calls.with(pattern, number), want);
        }
        return this;
    }

    /** The call answers so with each number that is not low .. high. */
    Run outside(String pattern, int low, int high, long want) {
        for (int number : numbersOutside(low, high)) {
            due(Calls.with(pattern, number), want);
        }
        return this;
    }

    /** Just past the ends, at the ends of the ints, and such as fewer bits would take for one within. */
    static List<Integer> numbersOutside(int low, int high) {
        int[] tried = {low - 1, high + 1, Integer.MIN_VALUE, Integer.MIN_VALUE + 1, Integer.MAX_VALUE,
            Integer.MAX_VALUE - 1, low + 256, high - 256, low + 65536, high - 65536, low + (1 << 30)};
        List<Integer> outside = new ArrayList<>();
        for (int number : tried) {
            if (number < low || number > high) {
                outside.add(number);
            }
        }
        return outside;
    }

    /** The codes that are told of a point and a side, and no more than these. */
    Run told(int p, int side, int... codes) {
        String of = "(" + p + ", " + side;
        due("guesses" + of + ")", codes.length);
        for (int k = 0; k < codes.length; k++) {
            due("guess" + of + ", " + k + ")", codes[k]);
        }
        return due("guess" + of + ", " + codes.length + ")", RunLaws.UNKNOWN);
    }

    /** The codes that the latest reading let die, and no more than these. */
    Run dead(int... codes) {
        due("told(3)", codes.length);
        for (int i = 0; i < codes.length; i++) {
            due("died(" + i + ")", codes[i]);
        }
        return due("died(" + codes.length + ")", RunLaws.UNKNOWN);
    }

    /** The basis of sums of a point and a side, row by row. */
    Run basis(int p, int side, long[]... rows) {
        String of = "(" + p + ", " + side;
        due("sums" + of + ")", rows.length);
        for (int s = 0; s < rows.length; s++) {
            for (int c = 0; c < rows[s].length; c++) {
                due("sum" + of + ", " + s + ", " + c + ")", rows[s][c]);
            }
        }
        return this;
    }

    static long[] row(long... numbers) {
        return numbers;
    }
}
