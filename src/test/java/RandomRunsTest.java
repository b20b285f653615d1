/** Runs of chance calls, of a fixed seed, on RunLaws and on the model: each answer must be the same. */
public final class RandomRunsTest {
    private static final int RUNS = 1500;
    private static final int CALLS = 512;
    private static final int LONG_SEARCHES = 3;
    private static final Check check = new Check("RandomRunsTest");

    private long seed;
    private RunLaws real;
    private Model model;
    private int run;
    private int reach;
    private int tie;
    private int searches;

    public static void main(String[] args) {
        RandomRunsTest test = new RandomRunsTest();
        for (int run = 1; run <= RUNS && check.isClean(); run++) {
            test.oneRun(run);
        }
        check.end();
    }

    private int chance(int below) {
        seed = seed * 6364136223846793005L + 1442695040888963407L;
        return (int) ((seed >>> 33) % below);
    }

    private int between(int low, int high) {
        return low + chance(high - low + 1);
    }

    /** Mostly a number within, now and then one just past the ends or far off. */
    private int mostly(int low, int high) {
        switch (chance(60)) {
            case 0: return low - 1;
            case 1: return high + 1;
            case 2: return chance(2) == 0 ? Integer.MAX_VALUE : Integer.MIN_VALUE;
            default: return between(low, high);
        }
    }

    private void oneRun(int number) {
        run = number;
        seed = 1000003L * number;
        real = new RunLaws();
        model = new Model();
        reach = new int[] {1, 2, 5, 30}[chance(4)];
        tie = chance(5);
        searches = 0;
        int points = chance(2) == 0 ? between(1, 2) : between(1, 6);
        for (int p = 0; p < points; p++) {
            point(between(1, 4));
        }
        int acts = chance(4) == 0 ? 10 : chance(6);
        for (int a = 0; a < acts; a++) {
            act(chance(points), chance(points));
        }
        int calls = CALLS - points - acts;
        // What reads and compares makes several calls, so fewer turns than calls are left.
        for (int turn = 0; turn < calls / 4 && check.isClean(); turn++) {
            turn();
        }
    }

    private void due(String call, long got, long want) {
        check.due("run " + run + ": " + call, got, want);
    }

    private int aPoint() {
        return mostly(0, Math.max(0, model.told(0) - 1));
    }

    private int anAct() {
        return mostly(0, Math.max(0, model.told(1) - 1));
    }

    private void turn() {
        switch (chance(26)) {
            case 0: if (chance(6) == 0) point(mostly(1, 4)); break;
            case 1: if (chance(3) == 0) act(aPoint(), aPoint()); break;
            case 2: split(aPoint(), mostly(0, 3), mostly(-reach, reach)); break;
            case 3: case 4: case 5: case 6: case 7: case 8: read(aPoint()); break;
            case 9: reading(aPoint(), mostly(0, 12), mostly(0, 3)); break;
            case 10: tried(aPoint(), mostly(0, 2)); break;
            case 11: case 12: holds(aPoint(), mostly(0, 2), mostly(0, 9), mostly(0, 3), mostly(0, 3)); break;
            case 13: case 14: number(aPoint(), mostly(0, 2), mostly(0, 4), mostly(0, 3), mostly(0, 4)); break;
            case 15: guesses(aPoint(), mostly(0, 2)); break;
            case 16: case 17: sums(aPoint(), mostly(0, 2)); break;
            case 18: start(aPoint()); break;
            case 19: case 20: makes(anAct()); break;
            case 21: made(anAct(), mostly(0, 3), mostly(0, 4)); break;
            case 22: kept(); break;
            case 23: search(chance(20) == 0 ? mostly(0, 5) : between(0, 3)); break;
            case 24: case 25: walk(); break;
            default: break;
        }
        if (chance(10) == 0) {
            int what = mostly(0, 3);
            due("told(" + what + ")", real.told(what), model.told(what));
            int p = aPoint();
            due("variables(" + p + ")", real.variables(p), model.variables(p));
        }
    }

    private void point(int k) {
        due("point(" + k + ")", real.point(k), model.point(k));
    }

    private void act(int from, int to) {
        due("act(" + from + ", " + to + ")", real.act(from, to), model.act(from, to));
    }

    private void split(int p, int v, int c) {
        due("split(" + p + ", " + v + ", " + c + ")", real.split(p, v, c), model.split(p, v, c));
    }

    /** Numbers that are tied to one another, so that guesses of two and sums live on. */
    private int[] numbers() {
        int a = mostly(-reach, reach);
        int b = mostly(-reach, reach);
        int c = mostly(-reach, reach);
        int d = mostly(-reach, reach);
        switch (tie) {
            case 1: return new int[] {a, a, chance(9) == 0 ? c : 3, d};
            case 2: return new int[] {a, -a + 1, 2 * a, d};
            case 3: return new int[] {4 * a, b, 4 * a + b, 4 * a - b + 2};
            case 4: return new int[] {Math.min(a, b), Math.max(a, b), 6 * c + 1, 5};
            default: return new int[] {a, b, c, d};
        }
    }

    private void read(int p) {
        int[] n = numbers();
        due("read(" + p + ", " + n[0] + ", " + n[1] + ", " + n[2] + ", " + n[3] + ")",
            real.read(p, n[0], n[1], n[2], n[3]), model.read(p, n[0], n[1], n[2], n[3]));
        dead();
    }

    private void dead() {
        due("told(3)", real.told(3), model.told(3));
        for (int i = -1; i <= model.told(3); i++) {
            due("died(" + i + ")", real.died(i), model.died(i));
        }
    }

    private void reading(int p, int r, int v) {
        due("reading(" + p + ", " + r + ", " + v + ")", real.reading(p, r, v), model.reading(p, r, v));
    }

    private void tried(int p, int side) {
        due("tried(" + p + ", " + side + ")", real.tried(p, side), model.tried(p, side));
    }

    private void holds(int p, int side, int shape, int i, int j) {
        due("holds(" + p + ", " + side + ", " + shape + ", " + i + ", " + j + ")",
            real.holds(p, side, shape, i, j), model.holds(p, side, shape, i, j));
    }

    private void number(int p, int side, int shape, int i, int what) {
        due("number(" + p + ", " + side + ", " + shape + ", " + i + ", " + what + ")",
            real.number(p, side, shape, i, what), model.number(p, side, shape, i, what));
    }

    private void guesses(int p, int side) {
        int count = model.guesses(p, side);
        due("guesses(" + p + ", " + side + ")", real.guesses(p, side), count);
        for (int k = -1; k <= count; k++) {
            due("guess(" + p + ", " + side + ", " + k + ")", real.guess(p, side, k), model.guess(p, side, k));
        }
    }

    private void sums(int p, int side) {
        due("sums(" + p + ", " + side + ")", real.sums(p, side), model.sums(p, side));
        for (int s = -1; s <= 4; s++) {
            for (int c = -1; c <= 5; c++) {
                due("sum(" + p + ", " + side + ", " + s + ", " + c + ")",
                    real.sum(p, side, s, c), model.sum(p, side, s, c));
            }
        }
    }

    private void start(int p) {
        int[] n = numbers();
        due("start(" + p + ", " + n[0] + ", " + n[1] + ", " + n[2] + ", " + n[3] + ")",
            real.start(p, n[0], n[1], n[2], n[3]), model.start(p, n[0], n[1], n[2], n[3]));
    }

    private void makes(int act) {
        int v = mostly(0, 3);
        int[] m = new int[4];
        for (int c = 0; c < 4; c++) {
            boolean own = c == v;
            m[c] = chance(3) == 0 ? mostly(-9, 9) : chance(3) == 0 ? between(-1, 1) : own ? 1 : 0;
        }
        int e = chance(10) == 0 ? mostly(-99, 99) : between(-3, 3);
        due("makes(" + act + ", " + v + ", " + m[0] + ", " + m[1] + ", " + m[2] + ", " + m[3] + ", " + e + ")",
            real.makes(act, v, m[0], m[1], m[2], m[3], e), model.makes(act, v, m[0], m[1], m[2], m[3], e));
    }

    private void made(int act, int v, int c) {
        due("made(" + act + ", " + v + ", " + c + ")", real.made(act, v, c), model.made(act, v, c));
    }

    private void kept() {
        due("kept()", real.kept(), model.kept());
    }

    private void search(int n) {
        if (n > 3 && n <= 5) {
            searches++;
            if (searches > LONG_SEARCHES) {
                return;
            }
        }
        due("search(" + n + ")", real.search(n), model.search(n));
        for (int what = -1; what < 17; what++) {
            due("broke(" + what + ")", real.broke(what), model.broke(what));
        }
    }

    private void walk() {
        int m = chance(4) == 0 ? mostly(0, 9) : between(0, 3);
        int n = 0;
        for (int digit = 0; digit < 9; digit++) {
            n = 10 * n + chance(Math.max(1, Math.min(10, model.told(1) + (chance(20) == 0 ? 1 : 0))));
        }
        if (chance(30) == 0) {
            n = chance(2) == 0 ? -n : Integer.MAX_VALUE;
        }
        due("run(" + n + ", " + m + ")", real.run(n, m), model.run(n, m));
        dead();
    }
}
