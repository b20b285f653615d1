import java.math.BigInteger;
import java.util.ArrayList;
import java.util.List;
import java.util.TreeSet;

/**
 * The document said again in the slowest and plainest way: every answer is worked out from the readings
 * anew, sums with fractions, and every row of acts is gone through. It shares nothing with RunLaws.
 */
final class Model {
    private static final int UNKNOWN = -1, OUTSIDE = -2, STATE = -3, FULL = -4, NONE = -9, LOST = -1000;

    private static final class Place {
        int k;
        int splitBy = -1;
        int bound;
        final List<int[]> readings = new ArrayList<>();
    }

    private static final class Step {
        int from;
        int to;
        final int[][] parts = new int[4][5];
    }

    private final List<Place> places = new ArrayList<>();
    private final List<Step> steps = new ArrayList<>();
    private List<Integer> dead = new ArrayList<>();
    private int startAt = -1;
    private int[] startNumbers;
    private int[] found;
    private int[] foundNumbers;
    private List<Integer> foundRow;
    private long rows;

    // ---- 1 points, readings

    int point(int k) {
        if (k < 1 || k > 4) {
            return OUTSIDE;
        }
        if (places.size() == 6) {
            return FULL;
        }
        Place place = new Place();
        place.k = k;
        places.add(place);
        return places.size() - 1;
    }

    private boolean isPoint(int p) {
        return p >= 0 && p < places.size();
    }

    private boolean isVariable(int p, int v) {
        return isPoint(p) && v >= 0 && v < places.get(p).k;
    }

    private static boolean isSide(int side) {
        return side >= 0 && side <= 2;
    }

    private static boolean isNumber(int c) {
        return c >= -30 && c <= 30;
    }

    private List<int[]> of(int p, int side) {
        Place place = places.get(p);
        List<int[]> list = new ArrayList<>();
        for (int[] r : place.readings) {
            boolean split = place.splitBy >= 0;
            boolean one = split && r[place.splitBy] >= place.bound;
            if (side == 0 || side == 1 && one || side == 2 && split && !one) {
                list.add(r);
            }
        }
        return list;
    }

    int split(int p, int v, int c) {
        if (!isVariable(p, v)) {
            return UNKNOWN;
        }
        if (!isNumber(c)) {
            return OUTSIDE;
        }
        places.get(p).splitBy = v;
        places.get(p).bound = c;
        return of(p, 1).size();
    }

    private boolean areNumbers(int p, int... numbers) {
        for (int v = 0; v < places.get(p).k; v++) {
            if (!isNumber(numbers[v])) {
                return false;
            }
        }
        return true;
    }

    int read(int p, int a, int b, int c, int d) {
        if (!isPoint(p)) {
            return UNKNOWN;
        }
        if (!areNumbers(p, a, b, c, d)) {
            return OUTSIDE;
        }
        if (places.get(p).readings.size() == 40) {
            return FULL;
        }
        List<Integer> ahead = standing(p);
        places.get(p).readings.add(new int[] {a, b, c, d});
        List<Integer> now = standing(p);
        dead = new ArrayList<>();
        for (Integer code : ahead) {
            if (!now.contains(code)) {
                dead.add(code);
            }
        }
        return dead.size();
    }

    private List<Integer> standing(int p) {
        List<Integer> all = new ArrayList<>();
        for (int side = 0; side < 3; side++) {
            for (int code : codes(places.get(p).k)) {
                if (stands(of(p, side), code / 100, code / 10 % 10, code % 10)) {
                    all.add(1000 * side + code);
                }
            }
        }
        return all;
    }

    private static List<Integer> codes(int k) {
        List<Integer> all = new ArrayList<>();
        for (int code = 0; code < 1000; code++) {
            int i = code / 10 % 10;
            int j = code % 10;
            if (i < k && j < k && isGuess(code / 100, i, j)) {
                all.add(code);
            }
        }
        return all;
    }

    private static boolean isGuess(int shape, int i, int j) {
        if (shape == 5 || shape == 8) {
            return i < j;
        }
        return shape == 6 || shape == 7 ? i != j : j == 0;
    }

    private static TreeSet<Integer> numbers(List<int[]> readings, int i) {
        TreeSet<Integer> set = new TreeSet<>();
        for (int[] r : readings) {
            set.add(r[i]);
        }
        return set;
    }

    private static int modulus(List<int[]> readings, int i) {
        int best = 0;
        for (int m = 2; m <= 12; m++) {
            TreeSet<Integer> rests = new TreeSet<>();
            for (int[] r : readings) {
                rests.add(((r[i] % m) + m) % m);
            }
            if (rests.size() == 1) {
                best = m;
            }
        }
        return best;
    }

    private static boolean stands(List<int[]> readings, int shape, int i, int j) {
        if (readings.isEmpty()) {
            return false;
        }
        int unlike = numbers(readings, i).size();
        switch (shape) {
            case 0: return unlike == 1;
            case 1: return unlike == 2 || unlike == 3;
            case 2: return true;
            case 3: return true;
            case 4: return modulus(readings, i) > 0;
            default:
        }
        for (int n = 0; n < readings.size(); n++) {
            int x = readings.get(n)[i];
            int y = readings.get(n)[j];
            boolean good = shape == 5 ? x == y : shape == 6 ? x < y : shape == 7 ? x <= y : shape == 8 ? x != y
                : n == 0 || x >= readings.get(n - 1)[i];
            if (!good) {
                return false;
            }
        }
        return true;
    }

    int died(int i) {
        return i < 0 || i >= dead.size() ? UNKNOWN : dead.get(i);
    }

    int reading(int p, int r, int v) {
        if (!isVariable(p, v) || r < 0 || r >= places.get(p).readings.size()) {
            return NONE;
        }
        return places.get(p).readings.get(r)[v];
    }

    int tried(int p, int side) {
        return isPoint(p) && isSide(side) ? of(p, side).size() : UNKNOWN;
    }

    int holds(int p, int side, int shape, int i, int j) {
        boolean two = shape >= 5 && shape <= 8;
        if (!isSide(side) || !isVariable(p, i) || two && !isVariable(p, j)) {
            return UNKNOWN;
        }
        if (shape < 0 || shape > 9 || !isGuess(shape, i, two ? j : 0)) {
            return OUTSIDE;
        }
        List<int[]> readings = of(p, side);
        if (readings.isEmpty()) {
            return NONE;
        }
        return stands(readings, shape, i, two ? j : 0) ? 1 : 0;
    }

    int number(int p, int side, int shape, int i, int what) {
        if (!isSide(side) || !isVariable(p, i) || shape < 0 || shape > 4) {
            return LOST;
        }
        List<int[]> readings = of(p, side);
        if (!stands(readings, shape, i, 0)) {
            return LOST;
        }
        TreeSet<Integer> set = numbers(readings, i);
        int m = modulus(readings, i);
        if (what == 0) {
            return shape == 3 ? set.last() : shape == 1 ? set.size() : shape == 4 ? m : set.first();
        }
        if (what == 1 && shape == 4) {
            return Math.floorMod(readings.get(0)[i], m);
        }
        if (shape == 1 && what >= 2 && what <= 4 && what - 2 < set.size()) {
            return new ArrayList<>(set).get(what - 2);
        }
        return LOST;
    }

    private List<Integer> toldOnes(int p, int side) {
        List<int[]> readings = of(p, side);
        List<Integer> all = new ArrayList<>();
        for (int code : codes(places.get(p).k)) {
            if (isTold(readings, code / 100, code / 10 % 10, code % 10)) {
                all.add(code);
            }
        }
        return all;
    }

    private static boolean isTold(List<int[]> readings, int shape, int i, int j) {
        if (!stands(readings, shape, i, j)) {
            return false;
        }
        boolean first = stands(readings, 0, i, 0);
        boolean both = first && stands(readings, 0, j, 0);
        switch (shape) {
            case 0: return true;
            case 1: case 2: case 3: case 4: case 9: return !first;
            case 5: case 6: return !both;
            case 7: return !both && !stands(readings, 5, Math.min(i, j), Math.max(i, j)) && !stands(readings, 6, i, j);
            default: return !both && !stands(readings, 6, i, j) && !stands(readings, 6, j, i);
        }
    }

    int guesses(int p, int side) {
        return isPoint(p) && isSide(side) ? toldOnes(p, side).size() : UNKNOWN;
    }

    int guess(int p, int side, int k) {
        if (!isPoint(p) || !isSide(side) || k < 0 || k >= toldOnes(p, side).size()) {
            return UNKNOWN;
        }
        return toldOnes(p, side).get(k);
    }

    // Fractions: a row of places, each with what is above and below the line.

    private record Fraction(BigInteger top, BigInteger low) {
        static Fraction of(long n) {
            return new Fraction(BigInteger.valueOf(n), BigInteger.ONE);
        }

        boolean isZero() {
            return top.signum() == 0;
        }

        Fraction less(Fraction a, Fraction b) {
            BigInteger t = top.multiply(a.low).multiply(b.low).subtract(a.top.multiply(b.top).multiply(low));
            return new Fraction(t, low.multiply(a.low).multiply(b.low)).plain();
        }

        Fraction by(Fraction a) {
            return new Fraction(top.multiply(a.low), low.multiply(a.top)).plain();
        }

        private Fraction plain() {
            BigInteger common = top.gcd(low);
            BigInteger sign = BigInteger.valueOf(low.signum());
            return new Fraction(top.divide(common).multiply(sign), low.divide(common).multiply(sign));
        }
    }

    /** Brings a table to its solved shape, in place; the places of the leads. */
    private static List<Integer> solve(List<Fraction[]> table, int width) {
        List<Integer> leads = new ArrayList<>();
        for (int c = 0; c < width; c++) {
            int r = leads.size();
            int at = r;
            while (at < table.size() && table.get(at)[c].isZero()) {
                at++;
            }
            if (at == table.size()) {
                continue;
            }
            Fraction[] row = table.get(at);
            table.set(at, table.get(r));
            table.set(r, row);
            Fraction lead = row[c];
            for (int d = 0; d < width; d++) {
                row[d] = row[d].by(lead);
            }
            for (Fraction[] other : table) {
                Fraction times = other[c];
                if (other != row && !times.isZero()) {
                    for (int d = 0; d < width; d++) {
                        other[d] = other[d].less(times, row[d]);
                    }
                }
            }
            leads.add(c);
        }
        return leads;
    }

    private List<BigInteger[]> basis(int p, int side) {
        List<BigInteger[]> all = new ArrayList<>();
        int k = places.get(p).k;
        List<Fraction[]> table = new ArrayList<>();
        for (int[] r : of(p, side)) {
            Fraction[] row = new Fraction[k + 1];
            for (int c = 0; c <= k; c++) {
                row[c] = Fraction.of(c < k ? r[c] : 1);
            }
            table.add(row);
        }
        if (table.isEmpty()) {
            return all;
        }
        List<Integer> leads = solve(table, k + 1);
        for (int free = 0; free <= k; free++) {
            if (leads.contains(free)) {
                continue;
            }
            BigInteger times = BigInteger.ONE;
            for (int r = 0; r < leads.size(); r++) {
                BigInteger low = table.get(r)[free].low();
                times = times.divide(times.gcd(low)).multiply(low);
            }
            BigInteger[] row = new BigInteger[k + 1];
            for (int c = 0; c <= k; c++) {
                row[c] = c == free ? times : BigInteger.ZERO;
            }
            for (int r = 0; r < leads.size(); r++) {
                Fraction f = table.get(r)[free];
                row[leads.get(r)] = f.top().negate().multiply(times).divide(f.low());
            }
            all.add(row);
        }
        return all;
    }

    int sums(int p, int side) {
        if (!isPoint(p) || !isSide(side)) {
            return UNKNOWN;
        }
        return of(p, side).isEmpty() ? NONE : basis(p, side).size();
    }

    long sum(int p, int side, int s, int c) {
        if (!isPoint(p) || !isSide(side) || s < 0 || c < 0 || c > places.get(p).k || s >= basis(p, side).size()) {
            return Long.MIN_VALUE;
        }
        return basis(p, side).get(s)[c].longValueExact();
    }

    // ---- 2 the program

    int start(int p, int a, int b, int c, int d) {
        if (!isPoint(p)) {
            return UNKNOWN;
        }
        if (!areNumbers(p, a, b, c, d)) {
            return OUTSIDE;
        }
        startAt = p;
        startNumbers = new int[] {a, b, c, d};
        return 1;
    }

    int act(int from, int to) {
        if (!isPoint(from) || !isPoint(to)) {
            return UNKNOWN;
        }
        if (steps.size() == 10) {
            return FULL;
        }
        Step step = new Step();
        step.from = from;
        step.to = to;
        steps.add(step);
        return steps.size() - 1;
    }

    private boolean isMade(int act, int v) {
        return act >= 0 && act < steps.size() && isVariable(steps.get(act).to, v);
    }

    int makes(int act, int v, int a, int b, int c, int d, int e) {
        if (!isMade(act, v)) {
            return UNKNOWN;
        }
        Step step = steps.get(act);
        int[] given = {a, b, c, d};
        int[] part = new int[5];
        for (int n = 0; n < places.get(step.from).k; n++) {
            if (given[n] < -9 || given[n] > 9) {
                return OUTSIDE;
            }
            part[n] = given[n];
        }
        if (e < -99 || e > 99) {
            return OUTSIDE;
        }
        part[4] = e;
        step.parts[v] = part;
        return 1;
    }

    int made(int act, int v, int c) {
        if (!isMade(act, v)) {
            return UNKNOWN;
        }
        return c < 0 || c > 4 ? OUTSIDE : steps.get(act).parts[v][c];
    }

    int kept() {
        if (startAt < 0) {
            return STATE;
        }
        List<BigInteger[]> first = basis(startAt, 0);
        for (int s = 0; s < first.size(); s++) {
            int k = places.get(startAt).k;
            BigInteger total = first.get(s)[k];
            for (int v = 0; v < k; v++) {
                total = total.add(first.get(s)[v].multiply(BigInteger.valueOf(startNumbers[v])));
            }
            if (total.signum() != 0) {
                return -20 - s;
            }
        }
        for (int a = 0; a < steps.size(); a++) {
            List<BigInteger[]> rows = basis(steps.get(a).to, 0);
            for (int s = 0; s < rows.size(); s++) {
                if (!isMadeOf(putIn(steps.get(a), rows.get(s)), basis(steps.get(a).from, 0))) {
                    return -20 - 100 * (a + 1) - s;
                }
            }
        }
        return 1;
    }

    private BigInteger[] putIn(Step step, BigInteger[] sum) {
        int from = places.get(step.from).k;
        int to = places.get(step.to).k;
        BigInteger[] row = new BigInteger[from + 1];
        for (int c = 0; c <= from; c++) {
            row[c] = c == from ? sum[to] : BigInteger.ZERO;
            for (int v = 0; v < to; v++) {
                row[c] = row[c].add(sum[v].multiply(BigInteger.valueOf(step.parts[v][c == from ? 4 : c])));
            }
        }
        return row;
    }

    /** As rows: it is made of the others, if with it there are no more independent ones than without. */
    private static boolean isMadeOf(BigInteger[] row, List<BigInteger[]> others) {
        List<BigInteger[]> with = new ArrayList<>(others);
        with.add(row);
        return rank(with, row.length) == rank(others, row.length);
    }

    private static int rank(List<BigInteger[]> rows, int width) {
        List<Fraction[]> table = new ArrayList<>();
        for (BigInteger[] r : rows) {
            Fraction[] row = new Fraction[width];
            for (int c = 0; c < width; c++) {
                row[c] = new Fraction(r[c], BigInteger.ONE);
            }
            table.add(row);
        }
        return solve(table, width).size();
    }

    /** The state that an act makes, or null where it is lost. */
    private int[] next(Step step, int[] numbers) {
        int[] made = new int[4];
        for (int v = 0; v < places.get(step.to).k; v++) {
            made[v] = step.parts[v][4];
            for (int c = 0; c < places.get(step.from).k; c++) {
                made[v] += step.parts[v][c] * numbers[c];
            }
            if (!isNumber(made[v])) {
                return null;
            }
        }
        return made;
    }

    int search(int n) {
        if (n < 0 || n > 5) {
            return OUTSIDE;
        }
        if (startAt < 0) {
            return STATE;
        }
        List<List<Integer>> told = new ArrayList<>();
        for (int p = 0; p < places.size(); p++) {
            told.add(toldOnes(p, 0));
        }
        rows = 0;
        for (int length = 0; length <= n; length++) {
            if (goThrough(told, startAt, startNumbers, new ArrayList<>(), length)) {
                return (int) rows;
            }
        }
        return NONE;
    }

    private boolean goThrough(List<List<Integer>> told, int p, int[] state, List<Integer> row, int length) {
        if (row.size() == length) {
            rows++;
            return state != null && isBroken(told.get(p), p, state, row);
        }
        if (state == null) {
            return false;
        }
        for (int a = 0; a < steps.size(); a++) {
            Step step = steps.get(a);
            if (step.from == p) {
                row.add(a);
                if (goThrough(told, step.to, next(step, state), row, length)) {
                    return true;
                }
                row.remove(row.size() - 1);
            }
        }
        return false;
    }

    private boolean isBroken(List<Integer> told, int p, int[] state, List<Integer> row) {
        List<int[]> readings = places.get(p).readings;
        for (int code : told) {
            if (breaks(readings, state, code / 100, code / 10 % 10, code % 10)) {
                found = new int[] {p, code, row.size()};
                foundNumbers = state.clone();
                foundRow = new ArrayList<>(row);
                return true;
            }
        }
        return false;
    }

    private static boolean breaks(List<int[]> readings, int[] state, int shape, int i, int j) {
        int x = state[i];
        int y = state[j];
        TreeSet<Integer> set = numbers(readings, i);
        switch (shape) {
            case 0: case 1: return !set.contains(x);
            case 2: return x < set.first();
            case 3: return x > set.last();
            case 4:
                int m = modulus(readings, i);
                return Math.floorMod(x, m) != Math.floorMod(set.first(), m);
            case 5: return x != y;
            case 6: return x >= y;
            case 7: return x > y;
            case 8: return x == y;
            default: return false;
        }
    }

    int broke(int what) {
        if (found == null || what < 0) {
            return NONE;
        }
        if (what < 3) {
            return found[what];
        }
        if (what <= 6) {
            return what - 3 < places.get(found[0]).k ? foundNumbers[what - 3] : NONE;
        }
        return what >= 10 && what - 10 < foundRow.size() ? foundRow.get(what - 10) : NONE;
    }

    int run(int n, int m) {
        if (m < 0 || m > 9 || n < 0) {
            return OUTSIDE;
        }
        if (startAt < 0) {
            return STATE;
        }
        int p = startAt;
        int[] state = startNumbers;
        String digits = new StringBuilder("000000000" + n).reverse().toString();
        for (int t = 0; t < m; t++) {
            int a = digits.charAt(t) - '0';
            if (a >= steps.size() || steps.get(a).from != p) {
                return UNKNOWN;
            }
            state = next(steps.get(a), state);
            if (state == null) {
                return NONE;
            }
            p = steps.get(a).to;
        }
        return read(p, state[0], state[1], state[2], state[3]);
    }

    int told(int what) {
        int[] all = {places.size(), steps.size(), startAt < 0 ? 0 : 1, dead.size()};
        return what < 0 || what > 3 ? OUTSIDE : all[what];
    }

    int variables(int p) {
        return isPoint(p) ? places.get(p).k : UNKNOWN;
    }
}
