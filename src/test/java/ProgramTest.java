/** Promises 14 to 23: the program, worked out by hand from the document. */
public final class ProgramTest {
    private static final int LARGE = Integer.MAX_VALUE;
    private static final int SMALL = Integer.MIN_VALUE;
    private static final Check check = new Check("ProgramTest");

    public static void main(String[] args) {
        start();
        act();
        makes();
        made();
        keptByStart();
        keptByActs();
        keptWithFractions();
        keptWithoutReadings();
        searchRefusals();
        searchOrder();
        searchLost();
        searchPastLost();
        searchSameNumbers();
        searchGuesses();
        searchFirstGuess();
        searchLatest();
        searchWhole();
        brokeRefusals();
        run();
        runRefusals();
        runFull();
        told();
        check.end();
    }

    /** A point with so many variables, and an act on it that leaves them as they are. */
    private static RunLaws still(int k) {
        RunLaws x = new RunLaws();
        x.point(k);
        x.act(0, 0);
        for (int v = 0; v < k; v++) {
            x.makes(0, v, v == 0 ? 1 : 0, v == 1 ? 1 : 0, v == 2 ? 1 : 0, v == 3 ? 1 : 0, 0);
        }
        return x;
    }

    private static void start() {
        RunLaws x = new RunLaws();
        check.due("14: no point", x.start(0, 0, 0, 0, 0), RunLaws.UNKNOWN);
        x.point(2);
        x.point(4);
        check.due("14: UNKNOWN ahead of OUTSIDE", x.start(2, 99, 0, 0, 0), RunLaws.UNKNOWN);
        check.due("14: point below 0", x.start(-1, 0, 0, 0, 0), RunLaws.UNKNOWN);
        check.due("14: above", x.start(0, 31, 0, 0, 0), RunLaws.OUTSIDE);
        check.due("14: below", x.start(0, 0, -31, 0, 0), RunLaws.OUTSIDE);
        check.due("14: the fourth", x.start(1, 0, 0, 0, SMALL), RunLaws.OUTSIDE);
        check.due("14: the third", x.start(1, 0, 0, LARGE, 0), RunLaws.OUTSIDE);
        check.due("14: none yet", x.told(2), 0);
        check.due("14: numbers beyond are not looked at", x.start(0, 30, -30, 31, LARGE), 1);
        check.due("22: told(2)", x.told(2), 1);
        x.run(0, 0);
        check.due("14: its first number", x.reading(0, 0, 0), 30);
        check.due("14: its second number", x.reading(0, 0, 1), -30);
        check.due("14: another one", x.start(1, 1, 2, 3, 4), 1);
        check.due("14: a refused one leaves it", x.start(0, 31, 0, 0, 0), RunLaws.OUTSIDE);
        x.run(0, 0);
        check.due("14: the latest", x.reading(1, 0, 3), 4);
        check.due("14: not at the one ahead", x.tried(0, 0), 1);
    }

    private static void act() {
        RunLaws x = new RunLaws();
        check.due("15: no points", x.act(0, 0), RunLaws.UNKNOWN);
        x.point(1);
        x.point(2);
        check.due("15: from", x.act(2, 0), RunLaws.UNKNOWN);
        check.due("15: to", x.act(0, 2), RunLaws.UNKNOWN);
        check.due("15: from below 0", x.act(-1, 0), RunLaws.UNKNOWN);
        check.due("15: to below 0", x.act(0, SMALL), RunLaws.UNKNOWN);
        for (int a = 0; a < 10; a++) {
            check.due("15: act", x.act(a % 2, a / 2 % 2), a);
            check.due("22: told(1)", x.told(1), a + 1);
        }
        check.due("15: an eleventh", x.act(0, 0), RunLaws.FULL);
        check.due("15: UNKNOWN ahead of FULL", x.act(0, 2), RunLaws.UNKNOWN);
        check.due("22: still ten", x.told(1), 10);
    }

    private static void makes() {
        RunLaws x = new RunLaws();
        x.point(2);
        x.point(3);
        x.act(0, 1);
        check.due("16: act", x.makes(1, 0, 0, 0, 0, 0, 0), RunLaws.UNKNOWN);
        check.due("16: act below 0", x.makes(-1, 0, 0, 0, 0, 0, 0), RunLaws.UNKNOWN);
        check.due("16: variable of the second point", x.makes(0, 3, 0, 0, 0, 0, 0), RunLaws.UNKNOWN);
        check.due("16: variable below 0", x.makes(0, -1, 0, 0, 0, 0, 0), RunLaws.UNKNOWN);
        check.due("16: UNKNOWN ahead of OUTSIDE", x.makes(0, 3, 10, 0, 0, 0, 0), RunLaws.UNKNOWN);
        check.due("16: most", x.makes(0, 2, 9, -9, 0, 0, 99), 1);
        check.due("16: least", x.makes(0, 1, -9, 9, 0, 0, -99), 1);
        check.due("16: multiple above", x.makes(0, 2, 10, 0, 0, 0, 0), RunLaws.OUTSIDE);
        check.due("16: multiple below", x.makes(0, 2, 0, -10, 0, 0, 0), RunLaws.OUTSIDE);
        check.due("16: whole number above", x.makes(0, 2, 0, 0, 0, 0, 100), RunLaws.OUTSIDE);
        check.due("16: whole number below", x.makes(0, 2, 0, 0, 0, 0, -100), RunLaws.OUTSIDE);
        check.due("16: refused ones change nothing", x.made(0, 2, 0), 9);
        check.due("16: nor the whole number", x.made(0, 2, 4), 99);
        check.due("16: beyond the first one's", x.makes(0, 0, 1, 2, 10, LARGE, 3), 1);
        check.due("16: taken", x.made(0, 0, 1), 2);
        check.due("16: not taken", x.made(0, 0, 2), 0);
        check.due("16: not taken", x.made(0, 0, 3), 0);
        check.due("16: whole number", x.made(0, 0, 4), 3);
        check.due("16: made anew", x.makes(0, 0, -1, 0, 0, 0, 0), 1);
        check.due("16: anew", x.made(0, 0, 0), -1);
        check.due("16: anew", x.made(0, 0, 1), 0);
        check.due("16: anew", x.made(0, 0, 4), 0);
    }

    private static void made() {
        RunLaws x = new RunLaws();
        x.point(4);
        x.point(1);
        x.act(0, 0);
        x.act(0, 1);
        for (int c = 0; c <= 4; c++) {
            check.due("17: 0 at first", x.made(0, 3, c), 0);
        }
        x.makes(0, 1, 1, -2, 3, -4, 55);
        int[] due = {1, -2, 3, -4, 55};
        for (int c = 0; c <= 4; c++) {
            check.due("17: number " + c, x.made(0, 1, c), due[c]);
            check.due("17: another variable", x.made(0, 2, c), 0);
        }
        check.due("17: past 4", x.made(0, 1, 5), RunLaws.OUTSIDE);
        check.due("17: below 0", x.made(0, 1, -1), RunLaws.OUTSIDE);
        check.due("17: act", x.made(2, 0, 0), RunLaws.UNKNOWN);
        check.due("17: act below 0", x.made(-1, 0, 0), RunLaws.UNKNOWN);
        check.due("17: variable", x.made(1, 1, 0), RunLaws.UNKNOWN);
        check.due("17: variable below 0", x.made(1, -1, 0), RunLaws.UNKNOWN);
        check.due("17: UNKNOWN ahead of OUTSIDE", x.made(1, 1, 5), RunLaws.UNKNOWN);
    }

    private static void keptByStart() {
        RunLaws x = still(3);
        check.due("18: no START", x.kept(), RunLaws.STATE);
        x.start(0, 1, 2, 4, 0);
        check.due("18: no readings", x.kept(), 1);
        x.read(0, 1, 2, 3, 0);
        // The basis: -2 x0 + x1, -3 x0 + x2, -x0 + 1.
        check.due("18: the second is not", x.kept(), -21);
        x.start(0, 2, 4, 6, 0);
        check.due("18: the third is not", x.kept(), -22);
        x.start(0, 0, 2, 3, 0);
        check.due("18: the first is not", x.kept(), -20);
        x.start(0, 1, 2, 3, 0);
        check.due("18: all are", x.kept(), 1);
    }

    private static void keptByActs() {
        RunLaws x = still(3);
        x.start(0, 1, 2, 3, 0);
        x.read(0, 1, 2, 3, 0);
        x.act(0, 0);
        // All 0 at first: -x0 + 1 becomes 1.
        check.due("18: act 1, sum 2", x.kept(), -20 - 200 - 2);
        x.makes(1, 0, 1, 0, 0, 0, 0);
        x.makes(1, 1, 0, 1, 0, 0, 0);
        x.makes(1, 2, 0, 0, 1, 0, 1);
        check.due("18: act 1, sum 1", x.kept(), -20 - 200 - 1);
        x.makes(1, 2, 0, 0, 0, 0, 3);
        check.due("18: a constant is kept", x.kept(), 1);
        x.makes(0, 1, 0, 1, 0, 0, -1);
        check.due("18: act 0, sum 0", x.kept(), -120);
        x.start(0, 1, 2, 4, 0);
        check.due("18: the START goes first", x.kept(), -21);
        x.start(0, 1, 2, 3, 0);
        x.makes(0, 1, 0, 1, 0, 0, 0);
        x.read(0, 2, 4, 6, 0);
        check.due("18: a sum less", x.sums(0, 0), 2);
        check.due("18: x2 always 3 breaks -3 x0 + x2", x.kept(), -20 - 200 - 1);
        x.makes(1, 0, 1, 0, 0, 0, 1);
        x.makes(1, 1, 0, 1, 0, 0, 2);
        x.makes(1, 2, 0, 0, 1, 0, 3);
        check.due("18: all three go on", x.kept(), 1);
        x.makes(1, 0, -3, 0, 0, 0, 0);
        x.makes(1, 1, 0, -3, 0, 0, 0);
        x.makes(1, 2, 0, 0, -3, 0, 0);
        check.due("18: multiples", x.kept(), 1);
        for (int a = 2; a < 10; a++) {
            x.act(0, 0);
        }
        x.makes(9, 2, 0, 0, 0, 0, 1);
        check.due("18: the last act", x.kept(), -20 - 1000 - 1);
    }

    private static void keptWithFractions() {
        RunLaws x = new RunLaws();
        x.point(2);
        x.point(1);
        x.start(0, 2, 3, 0, 0);
        x.read(0, 2, 3, 0, 0);
        x.read(1, 0, 0, 0, 0);
        x.act(0, 1);
        // The basis -3 x0 + 2 x1 and -x0 + 2; half of both is -2 x0 + x1 + 1.
        x.makes(0, 0, -2, 1, 0, 0, 1);
        check.due("18: halves", x.kept(), 1);
        x.makes(0, 0, -2, 1, 0, 0, 2);
        check.due("18: no halves", x.kept(), -120);
    }

    private static void keptWithoutReadings() {
        RunLaws x = new RunLaws();
        x.point(2);
        x.point(2);
        x.start(0, 5, 5, 0, 0);
        x.act(0, 1);
        x.act(1, 0);
        check.due("18: nowhere any", x.kept(), 1);
        x.read(1, 1, 2, 0, 0);
        x.read(1, 2, 4, 0, 0);
        check.due("18: 0 is a sum of no rows", x.kept(), 1);
        x.makes(0, 0, 1, 0, 0, 0, 0);
        check.due("18: no rows for -2 x0", x.kept(), -120);
        x.makes(0, 0, 0, 0, 0, 0, 1);
        check.due("18: no rows for -2", x.kept(), -120);
        x.makes(0, 1, 0, 0, 0, 0, 2);
        check.due("18: 0 again", x.kept(), 1);
        x.makes(1, 0, 7, 7, 0, 0, 7);
        check.due("18: no sums at the second point", x.kept(), 1);
    }

    private static void searchRefusals() {
        RunLaws x = new RunLaws();
        check.due("19: OUTSIDE ahead of STATE", x.search(6), RunLaws.OUTSIDE);
        check.due("19: below 0", x.search(-1), RunLaws.OUTSIDE);
        check.due("19: far off", x.search(LARGE), RunLaws.OUTSIDE);
        check.due("19: no START", x.search(0), RunLaws.STATE);
        x.point(1);
        x.start(0, 0, 0, 0, 0);
        check.due("19: no acts, no guesses", x.search(5), RunLaws.NONE);
        x.read(0, 1, 0, 0, 0);
        check.due("19: the row of length 0", x.search(0), 1);
    }

    private static void searchOrder() {
        RunLaws x = still(1);
        x.makes(0, 0, 1, 0, 0, 0, 1);
        x.act(0, 0);
        x.makes(1, 0, 9, 0, 0, 0, 0);
        x.start(0, 0, 0, 0, 0);
        x.read(0, 0, 0, 0, 0);
        x.read(0, 1, 0, 0, 0);
        x.read(0, 2, 0, 0, 0);
        check.due("19: none so near", x.search(1), RunLaws.NONE);
        // 0; 1, 0; 2, 9
        check.due("19: the fifth row", x.search(2), 5);
        broke(x, 0, 100, 2, 9);
        check.due("20: its acts", x.broke(10), 0);
        check.due("20: its acts", x.broke(11), 1);
        check.due("20: no third", x.broke(12), RunLaws.NONE);
        check.due("19: as deep as may be", x.search(5), 5);
    }

    private static void broke(RunLaws x, int point, int code, int length, int number) {
        check.due("20: point", x.broke(0), point);
        check.due("20: code", x.broke(1), code);
        check.due("20: length", x.broke(2), length);
        check.due("20: number", x.broke(3), number);
    }

    /** Acts: 0 adds 20, 1 leaves as is, 2 goes to point 1, 3 on to point 2. */
    private static RunLaws chain() {
        RunLaws x = new RunLaws();
        for (int p = 0; p < 4; p++) {
            x.point(1);
        }
        x.start(0, 0, 0, 0, 0);
        x.act(0, 0);
        x.makes(0, 0, 1, 0, 0, 0, 20);
        x.act(0, 0);
        x.makes(1, 0, 1, 0, 0, 0, 0);
        x.act(0, 1);
        x.makes(2, 0, 1, 0, 0, 0, 0);
        x.act(1, 2);
        x.makes(3, 0, 1, 0, 0, 0, 0);
        return x;
    }

    private static void searchLost() {
        RunLaws x = chain();
        x.read(2, 5, 0, 0, 0);
        // 1; 3; then 00 (lost) 01 02 10 11 12 23
        check.due("19: lost ones count", x.search(5), 11);
        broke(x, 2, 0, 2, 0);
        check.due("20: its acts", x.broke(10), 2);
        check.due("20: its acts", x.broke(11), 3);
        check.due("19: not so deep", x.search(1), RunLaws.NONE);
        broke(x, 2, 0, 2, 0);
    }

    private static void searchPastLost() {
        RunLaws x = chain();
        x.act(2, 3);
        x.makes(4, 0, 1, 0, 0, 0, 0);
        x.read(3, 5, 0, 0, 0);
        // 11; then 010 (lost) 011 012, 023, 100 (lost) 101 102, 110 111 112, 123, 234
        check.due("19: nothing leads on from what is lost", x.search(3), 23);
        broke(x, 3, 0, 3, 0);
        check.due("20: its third", x.broke(12), 4);
        x.makes(4, 0, 1, 0, 0, 0, 31);
        check.due("19: what is lost breaks none", x.search(3), RunLaws.NONE);
    }

    /** The same numbers at other points, and with more acts to go, are other states: their rows are not alike. */
    private static void searchSameNumbers() {
        RunLaws x = new RunLaws();
        for (int p = 0; p < 4; p++) {
            x.point(1);
        }
        int[][] ways = {{0, 0}, {0, 1}, {1, 1}, {1, 2}, {2, 3}};
        for (int a = 0; a < ways.length; a++) {
            x.act(ways[a][0], ways[a][1]);
            x.makes(a, 0, 1, 0, 0, 0, 0);
        }
        x.start(0, 0, 0, 0, 0);
        x.read(3, 5, 0, 0, 0);
        // 1; 0 1; 00 01 12 13; then 000 001 012 013 122 123 134
        check.due("19: the last of three", x.search(5), 14);
        broke(x, 3, 0, 3, 0);
    }

    /** One state against readings of two variables: which guess it breaks. */
    private static void breaks(String what, int[][] readings, int a, int b, int code) {
        RunLaws x = new RunLaws();
        x.point(2);
        for (int[] r : readings) {
            x.read(0, r[0], r[1], 0, 0);
        }
        x.start(0, a, b, 0, 0);
        check.due("19: " + what, x.search(0), code == RunLaws.NONE ? RunLaws.NONE : 1);
        check.due("20: " + what, x.broke(1), code);
    }

    private static void searchGuesses() {
        breaks("CONSTANT", new int[][] {{4, 0}, {4, 1}}, 5, 1, 0);
        breaks("FEW, between", new int[][] {{4, 0}, {8, 1}, {6, 2}}, 7, 1, 100);
        breaks("FEW, a third", new int[][] {{4, 0}, {8, 1}}, 6, 1, 100);
        int[][] many = {{4, -4}, {8, -8}, {12, -12}, {0, -20}};
        breaks("none", many, 4, -4, RunLaws.NONE);
        breaks("LEAST", many, -4, -20, 200);
        breaks("LEAST of the second", many, 4, -24, 210);
        breaks("GREATEST", many, 16, -4, 300);
        breaks("GREATEST of the second", many, 4, -3, 310);
        breaks("REST", many, 6, -4, 400);
        breaks("REST of the second", many, 4, -6, 410);
        int[][] alike = {{1, 1}, {5, 5}, {2, 2}, {9, 9}};
        breaks("ALIKE", alike, 3, 4, 501);
        breaks("none, between", alike, 3, 3, RunLaws.NONE);
        int[][] below = {{1, 2}, {5, 9}, {2, 4}, {8, 10}, {9, 11}};
        breaks("BELOW", below, 7, 7, 601);
        breaks("BELOW kept", below, 7, 8, RunLaws.NONE);
        int[][] above = {{2, 1}, {9, 5}, {4, 2}, {10, 8}, {11, 9}};
        breaks("BELOW 1 0", above, 7, 7, 610);
        int[][] notAbove = {{1, 1}, {5, 9}, {2, 4}, {8, 10}, {9, 11}};
        breaks("NOT ABOVE", notAbove, 8, 7, 701);
        breaks("NOT ABOVE, the same", notAbove, 7, 7, RunLaws.NONE);
        int[][] unlike = {{1, 2}, {5, 4}, {2, 7}, {8, 1}, {9, 10}};
        breaks("UNLIKE", unlike, 6, 6, 801);
        breaks("UNLIKE kept", unlike, 6, 5, RunLaws.NONE);
        int[][] rising = {{1, 2}, {2, 7}, {5, 4}, {8, 1}, {9, 10}};
        breaks("RISES breaks none", rising, 1, 3, RunLaws.NONE);
    }

    private static void searchFirstGuess() {
        RunLaws x = still(2);
        x.makes(0, 0, 1, 0, 0, 0, 7);
        x.makes(0, 1, 0, 1, 0, 0, 9);
        x.start(0, 0, 0, 0, 0);
        x.read(0, 0, 0, 0, 0);
        x.split(0, 0, 1);
        // Side 0 alone counts; 0 0 is constant in both.
        check.due("19: the second row", x.search(5), 2);
        broke(x, 0, 0, 1, 7);
        check.due("20: its second number", x.broke(4), 9);
        x.read(0, 7, 0, 0, 0);
        check.due("19: again", x.search(5), 2);
        broke(x, 0, 10, 1, 7);
    }

    private static void searchLatest() {
        RunLaws x = still(1);
        x.start(0, 3, 0, 0, 0);
        x.read(0, 2, 0, 0, 0);
        check.due("19: found", x.search(5), 1);
        broke(x, 0, 0, 0, 3);
        x.read(0, 3, 0, 0, 0);
        check.due("19: found none now", x.search(5), RunLaws.NONE);
        broke(x, 0, 0, 0, 3);
        x.search(9);
        broke(x, 0, 0, 0, 3);
        x.start(0, 4, 0, 0, 0);
        broke(x, 0, 0, 0, 3);
        check.due("19: found another", x.search(5), 1);
        broke(x, 0, 100, 0, 4);
    }

    /** Ten acts, of whose rows only the very last one of five breaks a guess. */
    private static void searchWhole() {
        RunLaws x = new RunLaws();
        x.point(1);
        for (int a = 0; a < 10; a++) {
            x.act(0, 0);
            x.makes(a, 0, 1, 0, 0, 0, a == 9 ? 1 : 0);
        }
        x.start(0, 0, 0, 0, 0);
        for (int r = 0; r <= 4; r++) {
            x.read(0, r, 0, 0, 0);
        }
        check.due("19: not with four", x.search(4), RunLaws.NONE);
        check.due("19: the last row of all", x.search(5), 111111);
        broke(x, 0, 300, 5, 5);
        for (int i = 0; i < 5; i++) {
            check.due("20: its acts", x.broke(10 + i), 9);
        }
        check.due("20: no sixth", x.broke(15), RunLaws.NONE);
        x.makes(9, 0, 1, 0, 0, 0, 0);
        check.due("19: nothing is remembered", x.search(5), RunLaws.NONE);
        x.makes(5, 0, 1, 0, 0, 0, 1);
        check.due("19: nor now", x.search(5), 11111 + 55555 + 1);
    }

    private static void brokeRefusals() {
        RunLaws x = still(3);
        x.start(0, -9, 1, 2, 0);
        x.read(0, 0, 0, 0, 0);
        x.search(0);
        check.due("20: a number that is NONE, too", x.broke(3), -9);
        check.due("20: the third", x.broke(5), 2);
        int[] none = {-1, 6, 7, 8, 9, 10, 11, 14, 15, 16, 100, LARGE, SMALL};
        for (int what : none) {
            check.due("20: broke(" + what + ")", x.broke(what), RunLaws.NONE);
        }
    }

    private static void run() {
        RunLaws x = new RunLaws();
        x.point(1);
        x.point(2);
        x.start(0, 2, 0, 0, 0);
        x.act(0, 0);
        x.makes(0, 0, 3, 0, 0, 0, 1);
        x.act(0, 1);
        x.makes(1, 0, 1, 0, 0, 0, 0);
        x.makes(1, 1, -1, 0, 0, 0, 5);
        check.due("21: no acts", x.run(77, 0), 0);
        check.due("21: the START", x.reading(0, 0, 0), 2);
        check.due("21: one act", x.run(0, 1), 1);
        check.due("21: CONSTANT died", x.died(0), 0);
        check.due("21: told(3)", x.told(3), 1);
        check.due("21: its number", x.reading(0, 1, 0), 7);
        check.due("21: the lowest digit first", x.run(10, 2), 0);
        check.due("21: at point 1", x.reading(1, 0, 0), 7);
        check.due("21: its second number", x.reading(1, 0, 1), -2);
        // 7 -2, then 2 3: both constants, 1 below 0, 1 not above 0, and x0 falls; unlike goes on.
        check.due("21: higher digits are not looked at", x.run(991, 1), 5);
        check.due("21: once more at point 1", x.reading(1, 1, 1), 3);
        int[] dead = {0, 10, 610, 710, 900};
        for (int i = 0; i < dead.length; i++) {
            check.due("21: died(" + i + ")", x.died(i), dead[i]);
        }
    }

    private static void runRefusals() {
        RunLaws x = new RunLaws();
        check.due("21: OUTSIDE ahead of STATE", x.run(-1, 0), RunLaws.OUTSIDE);
        check.due("21: m above", x.run(0, 10), RunLaws.OUTSIDE);
        check.due("21: m below", x.run(0, -1), RunLaws.OUTSIDE);
        check.due("21: m far below", x.run(0, SMALL), RunLaws.OUTSIDE);
        check.due("21: n far below", x.run(SMALL, 0), RunLaws.OUTSIDE);
        check.due("21: no START", x.run(0, 0), RunLaws.STATE);
        check.due("21: STATE ahead of the acts", x.run(5, 1), RunLaws.STATE);
        x.point(1);
        x.point(1);
        x.start(0, 10, 0, 0, 0);
        check.due("21: no such act", x.run(0, 1), RunLaws.UNKNOWN);
        x.act(0, 0);
        x.makes(0, 0, 2, 0, 0, 0, 0);
        x.act(1, 1);
        check.due("21: begins at another point", x.run(1, 1), RunLaws.UNKNOWN);
        check.due("21: no such one later", x.run(20, 2), RunLaws.UNKNOWN);
        check.due("21: lost", x.run(0, 2), RunLaws.NONE);
        check.due("21: lost ahead of no such one", x.run(200, 3), RunLaws.NONE);
        check.due("21: no such one ahead of lost", x.run(2, 3), RunLaws.UNKNOWN);
        check.due("21: none was read", x.tried(0, 0), 0);
        check.due("21: not lost", x.run(0, 1), 0);
        check.due("21: 20", x.reading(0, 0, 0), 20);
        x.makes(0, 0, 1, 0, 0, 0, 20);
        check.due("21: 30 is not lost", x.run(0, 1), 1);
        x.makes(0, 0, 1, 0, 0, 0, 21);
        check.due("21: 31 is", x.run(0, 1), RunLaws.NONE);
        x.makes(0, 0, 1, 0, 0, 0, -40);
        check.due("21: -30 is not", x.run(0, 1), 1);
        x.makes(0, 0, 1, 0, 0, 0, -41);
        check.due("21: -31 is", x.run(0, 1), RunLaws.NONE);
        check.due("21: refused ones let the dead be", x.told(3), 1);
        check.due("21: RISES", x.died(0), 900);
        check.due("21: the greatest n", x.run(LARGE, 9), RunLaws.UNKNOWN);
    }

    private static void runFull() {
        RunLaws x = still(1);
        x.start(0, 0, 0, 0, 0);
        for (int r = 0; r < 40; r++) {
            check.due("21: nothing dies", x.run(0, r % 10), 0);
        }
        check.due("21: a 41st", x.run(0, 9), RunLaws.FULL);
        check.due("21: the acts ahead of FULL", x.run(1, 1), RunLaws.UNKNOWN);
        check.due("21: 40 of them", x.tried(0, 0), 40);
    }

    private static void told() {
        RunLaws x = still(1);
        check.due("22: points", x.told(0), 1);
        check.due("22: acts", x.told(1), 1);
        check.due("22: START", x.told(2), 0);
        check.due("22: past 3", x.told(4), RunLaws.OUTSIDE);
        check.due("22: below 0", x.told(-1), RunLaws.OUTSIDE);
        check.due("22: far off", x.told(LARGE), RunLaws.OUTSIDE);
    }
}
