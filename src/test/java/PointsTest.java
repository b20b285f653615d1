/** Promises 1 to 13: points and readings, worked out by hand from the document. */
public final class PointsTest {
    private static final int LOST = -1000;
    private static final int LARGE = Integer.MAX_VALUE;
    private static final int SMALL = Integer.MIN_VALUE;
    private static final Check check = new Check("PointsTest");

    public static void main(String[] args) {
        newObject();
        point();
        split();
        splitParts();
        splitForgets();
        read();
        readFull();
        died();
        diedKinds();
        reading();
        tried();
        holdsOfOne();
        holdsOfTwo();
        holdsRefusals();
        rests();
        number();
        numberRefusals();
        guesses();
        guessesLeftOut();
        guessesOfConstants();
        sums();
        sumsFractions();
        sumsLeadsMixed();
        sumsOfSides();
        sumsLargest();
        sumsOfMany();
        check.end();
    }

    private static void newObject() {
        RunLaws x = new RunLaws();
        for (int what = 0; what < 4; what++) {
            check.due("1: told(" + what + ")", x.told(what), 0);
        }
        check.due("1: variables(0)", x.variables(0), RunLaws.UNKNOWN);
        check.due("1: made(0, 0, 0)", x.made(0, 0, 0), RunLaws.UNKNOWN);
        check.due("1: kept()", x.kept(), RunLaws.STATE);
        check.due("1: search(5)", x.search(5), RunLaws.STATE);
        check.due("1: broke(2)", x.broke(2), RunLaws.NONE);
        check.due("1: died(0)", x.died(0), RunLaws.UNKNOWN);
    }

    private static void point() {
        RunLaws x = new RunLaws();
        int[] wrong = {0, -1, 5, 6, LARGE, SMALL};
        for (int k : wrong) {
            check.due("2: point(" + k + ")", x.point(k), RunLaws.OUTSIDE);
        }
        int[] sizes = {4, 1, 3, 2, 1, 4};
        for (int p = 0; p < 6; p++) {
            check.due("2: point", x.point(sizes[p]), p);
            check.due("2: told(0)", x.told(0), p + 1);
        }
        check.due("2: a seventh", x.point(2), RunLaws.FULL);
        check.due("2: OUTSIDE ahead of FULL", x.point(5), RunLaws.OUTSIDE);
        for (int p = 0; p < 6; p++) {
            check.due("23: variables(" + p + ")", x.variables(p), sizes[p]);
        }
        check.due("23: variables(6)", x.variables(6), RunLaws.UNKNOWN);
        check.due("23: variables(-1)", x.variables(-1), RunLaws.UNKNOWN);
        check.due("23: variables(least int)", x.variables(SMALL), RunLaws.UNKNOWN);
    }

    private static void split() {
        RunLaws x = new RunLaws();
        x.point(2);
        check.due("3: no readings", x.split(0, 1, 0), 0);
        check.due("3: point", x.split(1, 0, 0), RunLaws.UNKNOWN);
        check.due("3: point below 0", x.split(-1, 0, 0), RunLaws.UNKNOWN);
        check.due("3: variable", x.split(0, 2, 0), RunLaws.UNKNOWN);
        check.due("3: variable below 0", x.split(0, -1, 0), RunLaws.UNKNOWN);
        check.due("3: bound above", x.split(0, 0, 31), RunLaws.OUTSIDE);
        check.due("3: bound below", x.split(0, 0, -31), RunLaws.OUTSIDE);
        check.due("3: UNKNOWN ahead of OUTSIDE", x.split(0, 2, 99), RunLaws.UNKNOWN);
        x.read(0, 30, -30, 0, 0);
        x.read(0, 0, 5, 0, 0);
        x.read(0, -30, 30, 0, 0);
        check.due("3: refused ones left the split as it was", x.tried(0, 1), 2);
        check.due("3: greatest bound", x.split(0, 0, 30), 1);
        check.due("3: least bound", x.split(0, 0, -30), 3);
        check.due("3: side 2 empty", x.tried(0, 2), 0);
        check.due("3: not below the bound", x.split(0, 1, 5), 2);
        check.due("3: the others", x.tried(0, 2), 1);
        check.due("3: side 0 stays whole", x.tried(0, 0), 3);
    }

    private static void splitParts() {
        RunLaws x = new RunLaws();
        x.point(2);
        x.read(0, 1, 10, 0, 0);
        x.read(0, -1, 5, 0, 0);
        x.read(0, 2, 11, 0, 0);
        x.read(0, -2, 6, 0, 0);
        check.due("3: without a split", x.holds(0, 1, 2, 0, 0), RunLaws.NONE);
        check.due("3: falls in all", x.holds(0, 0, 9, 1, 0), 0);
        x.split(0, 0, 0);
        check.due("3: rises on side 1", x.holds(0, 1, 9, 1, 0), 1);
        check.due("3: rises on side 2", x.holds(0, 2, 9, 1, 0), 1);
        check.due("3: least of side 1", x.number(0, 1, 2, 1, 0), 10);
        check.due("3: greatest of side 2", x.number(0, 2, 3, 1, 0), 6);
        x.read(0, -3, 4, 0, 0);
        check.due("3: a later reading is of its side", x.holds(0, 2, 9, 1, 0), 0);
        check.due("3: and not of the other", x.holds(0, 1, 9, 1, 0), 1);
        x.read(0, 0, 12, 0, 0);
        check.due("3: the bound itself is side 1", x.tried(0, 1), 3);
        x.split(0, 1, 11);
        check.due("3: parted anew", x.number(0, 1, 2, 1, 0), 11);
        check.due("3: parted anew, others", x.number(0, 2, 3, 1, 0), 10);
        x.point(1);
        check.due("3: another point has none", x.tried(1, 1), 0);
    }

    /** What a side was found to be ahead of a new split says nothing of the side behind it. */
    private static void splitForgets() {
        RunLaws x = new RunLaws();
        x.point(2);
        x.read(0, 10, 5, 0, 0);
        x.read(0, 4, 8, 0, 0);
        x.read(0, -1, -2, 0, 0);
        x.read(0, 5, -6, 0, 0);
        check.due("3: all on side 2", x.split(0, 0, 30), 0);
        check.due("3: falls there", x.holds(0, 2, 9, 0, 0), 0);
        check.due("3: no rest there", x.holds(0, 2, 4, 0, 0), 0);
        check.due("3: no order there", x.holds(0, 2, 7, 1, 0), 0);
        check.due("3: two on side 2", x.split(0, 1, 0), 2);
        check.due("3: rises now", x.holds(0, 2, 9, 0, 0), 1);
        check.due("3: a rest now", x.number(0, 2, 4, 0, 0), 6);
        check.due("3: an order now", x.holds(0, 2, 6, 1, 0), 1);
        check.due("3: few now", x.number(0, 2, 1, 1, 0), 2);
        check.due("3: the lesser of them", x.number(0, 2, 1, 1, 2), -6);
        check.due("3: one on side 1", x.split(0, 1, 8), 1);
        told(x, 0, 1, 0, 10);
        check.due("3: all on side 1", x.split(0, 1, -30), 4);
        check.due("3: none on side 2", x.sums(0, 2), RunLaws.NONE);
    }

    private static void read() {
        RunLaws x = new RunLaws();
        x.point(2);
        x.point(4);
        check.due("4: point", x.read(2, 0, 0, 0, 0), RunLaws.UNKNOWN);
        check.due("4: point below 0", x.read(-1, 0, 0, 0, 0), RunLaws.UNKNOWN);
        check.due("4: UNKNOWN ahead of OUTSIDE", x.read(2, 99, 0, 0, 0), RunLaws.UNKNOWN);
        check.due("4: above", x.read(0, 31, 0, 0, 0), RunLaws.OUTSIDE);
        check.due("4: below", x.read(0, 0, -31, 0, 0), RunLaws.OUTSIDE);
        check.due("4: the fourth", x.read(1, 0, 0, 0, 31), RunLaws.OUTSIDE);
        check.due("4: the third", x.read(1, 0, 0, SMALL, 0), RunLaws.OUTSIDE);
        check.due("4: none came in", x.tried(0, 0), 0);
        check.due("4: the first lets none die", x.read(0, 30, -30, LARGE, SMALL), 0);
        check.due("4: the same again", x.read(0, 30, -30, 31, 31), 0);
        check.due("4: both constants", x.read(0, 30, -18, 0, 0), 1);
        check.due("4: 10", x.died(0), 10);
        check.due("4: NOT ABOVE, BELOW, UNLIKE, CONSTANT, RISES", x.read(0, -18, -18, 0, 0), 4);
        check.due("4: CONSTANT 0", x.died(0), 0);
        check.due("4: BELOW 1 0", x.died(1), 610);
        check.due("4: UNLIKE 0 1", x.died(2), 801);
        check.due("4: RISES 0", x.died(3), 900);
        check.due("4: NOT ABOVE 1 0 goes on", x.holds(0, 0, 7, 1, 0), 1);
    }

    private static void readFull() {
        RunLaws x = new RunLaws();
        x.point(1);
        x.point(1);
        for (int r = 0; r < 40; r++) {
            x.read(0, r % 2, 0, 0, 0);
        }
        check.due("4: 40 of them", x.tried(0, 0), 40);
        x.read(1, 1, 0, 0, 0);
        check.due("4: a point of its own", x.read(1, 0, 0, 0, 0), 3);
        check.due("4: a 41st", x.read(0, 7, 0, 0, 0), RunLaws.FULL);
        check.due("4: OUTSIDE ahead of FULL", x.read(0, 31, 0, 0, 0), RunLaws.OUTSIDE);
        check.due("4: FULL changes nothing", x.number(0, 0, 3, 0, 0), 1);
        check.due("4: refused ones let the dead be", x.told(3), 3);
        check.due("5: refused ones let the dead be", x.died(2), 900);
        check.due("4: still 40", x.tried(0, 0), 40);
    }

    private static void died() {
        RunLaws x = new RunLaws();
        x.point(1);
        x.split(0, 0, 0);
        x.read(0, 5, 0, 0, 0);
        check.due("5: none yet", x.died(0), RunLaws.UNKNOWN);
        check.due("4: constant of two sides", x.read(0, 7, 0, 0, 0), 2);
        dead(x, 0, 1000);
        check.due("4: a first one of side 2", x.read(0, -3, 0, 0, 0), 1);
        dead(x, 900);
        check.due("4: sides 0 and 2", x.read(0, -4, 0, 0, 0), 5);
        dead(x, 100, 400, 2000, 2400, 2900);
        x.split(0, 0, 6);
        dead(x, 100, 400, 2000, 2400, 2900);
        check.due("4: none dies", x.read(0, -4, 0, 0, 0), 0);
        dead(x);
    }

    private static void diedKinds() {
        RunLaws x = new RunLaws();
        x.point(3);
        x.read(0, 1, 1, 1, 0);
        check.due("4: of each kind", x.read(0, 1, 2, 3, 0), 9);
        dead(x, 10, 20, 410, 501, 502, 512, 710, 720, 721);
    }

    private static void dead(RunLaws x, int... codes) {
        for (int i = 0; i < codes.length; i++) {
            check.due("5: died(" + i + ")", x.died(i), codes[i]);
        }
        check.due("22: told(3)", x.told(3), codes.length);
        check.due("5: one past the last", x.died(codes.length), RunLaws.UNKNOWN);
        check.due("5: below 0", x.died(-1), RunLaws.UNKNOWN);
        check.due("5: greatest int", x.died(LARGE), RunLaws.UNKNOWN);
        check.due("5: least int", x.died(SMALL), RunLaws.UNKNOWN);
    }

    private static void reading() {
        RunLaws x = new RunLaws();
        x.point(3);
        x.read(0, -9, 30, -30, 5);
        x.read(0, 1, 2, 3, 4);
        check.due("6: a number that is NONE, too", x.reading(0, 0, 0), -9);
        check.due("6: 0 1", x.reading(0, 0, 1), 30);
        check.due("6: 0 2", x.reading(0, 0, 2), -30);
        check.due("6: 1 2", x.reading(0, 1, 2), 3);
        x.split(0, 0, 0);
        check.due("6: of side 0", x.reading(0, 1, 0), 1);
        check.due("6: point", x.reading(1, 0, 0), RunLaws.NONE);
        check.due("6: point below 0", x.reading(-1, 0, 0), RunLaws.NONE);
        check.due("6: reading", x.reading(0, 2, 0), RunLaws.NONE);
        check.due("6: reading below 0", x.reading(0, -1, 0), RunLaws.NONE);
        check.due("6: reading far off", x.reading(0, LARGE, 0), RunLaws.NONE);
        check.due("6: variable", x.reading(0, 0, 3), RunLaws.NONE);
        check.due("6: variable below 0", x.reading(0, 0, -1), RunLaws.NONE);
    }

    private static void tried() {
        RunLaws x = new RunLaws();
        x.point(1);
        check.due("7: none", x.tried(0, 0), 0);
        x.read(0, 4, 0, 0, 0);
        check.due("7: one", x.tried(0, 0), 1);
        check.due("7: none of side 1 without a split", x.tried(0, 1), 0);
        check.due("7: none of side 2 without a split", x.tried(0, 2), 0);
        check.due("7: side 3", x.tried(0, 3), RunLaws.UNKNOWN);
        check.due("7: side below 0", x.tried(0, -1), RunLaws.UNKNOWN);
        check.due("7: point", x.tried(1, 0), RunLaws.UNKNOWN);
        check.due("7: point below 0", x.tried(-1, 0), RunLaws.UNKNOWN);
    }

    private static void holdsOfOne() {
        RunLaws x = new RunLaws();
        x.point(1);
        int[][] steps = {
            // a reading, then CONSTANT, FEW, LEAST, GREATEST, REST, RISES after it
            {4, 1, 0, 1, 1, 1, 1},
            {4, 1, 0, 1, 1, 1, 1},
            {6, 0, 1, 1, 1, 1, 1},
            {6, 0, 1, 1, 1, 1, 1},
            {8, 0, 1, 1, 1, 1, 1},
            {4, 0, 1, 1, 1, 1, 0},
            {9, 0, 0, 1, 1, 0, 0},
            {9, 0, 0, 1, 1, 0, 0},
        };
        int[] shapes = {0, 1, 2, 3, 4, 9};
        for (int[] step : steps) {
            x.read(0, step[0], 0, 0, 0);
            for (int s = 0; s < shapes.length; s++) {
                check.due("8: shape " + shapes[s] + " after " + step[0],
                    x.holds(0, 0, shapes[s], 0, LARGE), step[s + 1]);
            }
        }
    }

    private static void holdsOfTwo() {
        RunLaws x = new RunLaws();
        x.point(2);
        x.read(0, 3, 3, 0, 0);
        pair(x, 1, 0, 0, 1, 1, 0);
        x.read(0, 3, 4, 0, 0);
        pair(x, 0, 0, 0, 1, 0, 0);
        x.read(0, 5, 4, 0, 0);
        pair(x, 0, 0, 0, 0, 0, 0);
        RunLaws y = new RunLaws();
        y.point(2);
        y.read(0, 3, 4, 0, 0);
        pair(y, 0, 1, 0, 1, 0, 1);
        y.read(0, 5, 4, 0, 0);
        pair(y, 0, 0, 0, 0, 0, 1);
        RunLaws z = new RunLaws();
        z.point(2);
        z.read(0, 4, -4, 0, 0);
        pair(z, 0, 0, 1, 0, 1, 1);
    }

    private static void pair(RunLaws x, int alike, int below01, int below10, int not01, int not10, int unlike) {
        check.due("8: ALIKE", x.holds(0, 0, 5, 0, 1), alike);
        check.due("8: BELOW 0 1", x.holds(0, 0, 6, 0, 1), below01);
        check.due("8: BELOW 1 0", x.holds(0, 0, 6, 1, 0), below10);
        check.due("8: NOT ABOVE 0 1", x.holds(0, 0, 7, 0, 1), not01);
        check.due("8: NOT ABOVE 1 0", x.holds(0, 0, 7, 1, 0), not10);
        check.due("8: UNLIKE", x.holds(0, 0, 8, 0, 1), unlike);
    }

    private static void holdsRefusals() {
        RunLaws x = new RunLaws();
        x.point(2);
        check.due("8: NOT TRIED", x.holds(0, 0, 2, 0, 0), RunLaws.NONE);
        check.due("8: refused ahead of NOT TRIED", x.holds(0, 0, 8, 1, 0), RunLaws.OUTSIDE);
        x.read(0, 1, 2, 0, 0);
        check.due("8: side NOT TRIED", x.holds(0, 2, 2, 0, 0), RunLaws.NONE);
        check.due("8: point", x.holds(1, 0, 0, 0, 0), RunLaws.UNKNOWN);
        check.due("8: side", x.holds(0, 3, 0, 0, 0), RunLaws.UNKNOWN);
        check.due("8: side below 0", x.holds(0, -1, 0, 0, 0), RunLaws.UNKNOWN);
        check.due("8: i", x.holds(0, 0, 0, 2, 0), RunLaws.UNKNOWN);
        check.due("8: i below 0", x.holds(0, 0, 9, -1, 0), RunLaws.UNKNOWN);
        check.due("8: UNKNOWN i ahead of a shape OUTSIDE", x.holds(0, 0, 10, 2, 0), RunLaws.UNKNOWN);
        check.due("8: UNKNOWN j ahead of places OUTSIDE", x.holds(0, 0, 5, 1, -1), RunLaws.UNKNOWN);
        for (int shape = 5; shape <= 8; shape++) {
            check.due("8: j of " + shape, x.holds(0, 0, shape, 0, 2), RunLaws.UNKNOWN);
            check.due("8: j below 0 of " + shape, x.holds(0, 0, shape, 0, -1), RunLaws.UNKNOWN);
            check.due("8: i is j of " + shape, x.holds(0, 0, shape, 1, 1), RunLaws.OUTSIDE);
        }
        check.due("8: ALIKE, i above j", x.holds(0, 0, 5, 1, 0), RunLaws.OUTSIDE);
        check.due("8: UNLIKE, i above j", x.holds(0, 0, 8, 1, 0), RunLaws.OUTSIDE);
        check.due("8: BELOW, i above j", x.holds(0, 0, 6, 1, 0), 0);
        check.due("8: shape 10", x.holds(0, 0, 10, 0, 99), RunLaws.OUTSIDE);
        check.due("8: shape below 0", x.holds(0, 0, -1, 0, 0), RunLaws.OUTSIDE);
        check.due("8: shape far below", x.holds(0, 0, SMALL, 0, 0), RunLaws.OUTSIDE);
        check.due("8: j not looked at", x.holds(0, 0, 9, 0, -77), 1);
    }

    private static void rests() {
        // Two numbers so far apart: the greatest m, 2 to 12, that divides their distance.
        int[] due = {12, LOST, 2, 3, 4, 5, 6, 7, 8, 9, 10, 11, 12, LOST, 7, 5, 8, LOST, 9, LOST, 10,
            7, 11, LOST, 12, 5, 2, 9, 7, LOST, 10, LOST, 8, 11, 2, 7, 12};
        for (int apart = 0; apart < due.length; apart++) {
            RunLaws x = new RunLaws();
            x.point(1);
            x.read(0, -25 + apart, 0, 0, 0);
            x.read(0, -25, 0, 0, 0);
            check.due("9: m of " + apart + " apart", x.number(0, 0, 4, 0, 0), due[apart]);
            int rest = due[apart] == LOST ? LOST : Math.floorMod(-25, due[apart]);
            check.due("9: rest of " + apart + " apart", x.number(0, 0, 4, 0, 1), rest);
            check.due("8: REST of " + apart + " apart", x.holds(0, 0, 4, 0, 0), due[apart] == LOST ? 0 : 1);
        }
    }

    private static void number() {
        RunLaws x = new RunLaws();
        x.point(2);
        x.read(0, -7, 3, 0, 0);
        check.due("9: CONSTANT", x.number(0, 0, 0, 0, 0), -7);
        check.due("9: LEAST", x.number(0, 0, 2, 0, 0), -7);
        check.due("9: GREATEST", x.number(0, 0, 3, 0, 0), -7);
        check.due("9: FEW of one", x.number(0, 0, 1, 0, 0), LOST);
        check.due("9: REST", x.number(0, 0, 4, 0, 0), 12);
        check.due("9: its rest, never below 0", x.number(0, 0, 4, 0, 1), 5);
        x.read(0, 11, 3, 0, 0);
        check.due("9: CONSTANT no more", x.number(0, 0, 0, 0, 0), LOST);
        check.due("9: FEW", x.number(0, 0, 1, 0, 0), 2);
        check.due("9: its first", x.number(0, 0, 1, 0, 2), -7);
        check.due("9: its second", x.number(0, 0, 1, 0, 3), 11);
        check.due("9: no third", x.number(0, 0, 1, 0, 4), LOST);
        check.due("9: REST", x.number(0, 0, 4, 0, 0), 9);
        check.due("9: its rest", x.number(0, 0, 4, 0, 1), 2);
        x.read(0, -16, 3, 0, 0);
        check.due("9: FEW of three", x.number(0, 0, 1, 0, 0), 3);
        check.due("9: rising, the first", x.number(0, 0, 1, 0, 2), -16);
        check.due("9: rising, the second", x.number(0, 0, 1, 0, 3), -7);
        check.due("9: rising, the third", x.number(0, 0, 1, 0, 4), 11);
        check.due("9: LEAST", x.number(0, 0, 2, 0, 0), -16);
        check.due("9: GREATEST", x.number(0, 0, 3, 0, 0), 11);
        check.due("9: another variable", x.number(0, 0, 0, 1, 0), 3);
        x.read(0, 2, 3, 0, 0);
        check.due("9: FEW of four", x.number(0, 0, 1, 0, 0), LOST);
        check.due("9: FEW of four, its first", x.number(0, 0, 1, 0, 2), LOST);
        check.due("9: REST goes on", x.number(0, 0, 4, 0, 0), 9);
    }

    private static void numberRefusals() {
        RunLaws x = new RunLaws();
        x.point(2);
        check.due("9: NOT TRIED", x.number(0, 0, 2, 0, 0), LOST);
        x.read(0, 1, 2, 0, 0);
        x.read(0, 3, 2, 0, 0);
        check.due("9: side NOT TRIED", x.number(0, 1, 2, 0, 0), LOST);
        check.due("9: point", x.number(1, 0, 2, 0, 0), LOST);
        check.due("9: side", x.number(0, 3, 2, 0, 0), LOST);
        check.due("9: i", x.number(0, 0, 2, 2, 0), LOST);
        check.due("9: i below 0", x.number(0, 0, 2, -1, 0), LOST);
        for (int shape = 5; shape < 12; shape++) {
            check.due("9: shape " + shape, x.number(0, 0, shape, 1, 0), LOST);
        }
        check.due("9: shape below 0", x.number(0, 0, -1, 0, 0), LOST);
        for (int what = 1; what < 7; what++) {
            check.due("9: CONSTANT " + what, x.number(0, 0, 0, 1, what), LOST);
            check.due("9: LEAST " + what, x.number(0, 0, 2, 0, what), LOST);
            check.due("9: GREATEST " + what, x.number(0, 0, 3, 0, what), LOST);
        }
        check.due("9: FEW 1", x.number(0, 0, 1, 0, 1), LOST);
        check.due("9: FEW 5", x.number(0, 0, 1, 0, 5), LOST);
        check.due("9: FEW far off", x.number(0, 0, 1, 0, LARGE), LOST);
        check.due("9: FEW below 0", x.number(0, 0, 1, 0, -1), LOST);
        check.due("9: REST 2", x.number(0, 0, 4, 0, 2), LOST);
        check.due("9: REST below 0", x.number(0, 0, 4, 0, SMALL), LOST);
    }

    private static void guesses() {
        RunLaws x = new RunLaws();
        x.point(2);
        told(x, 0, 0);
        x.read(0, 1, 1, 0, 0);
        told(x, 0, 0, 0, 10);
        x.read(0, 2, 2, 0, 0);
        told(x, 0, 0, 100, 110, 200, 210, 300, 310, 501, 900, 910);
        x.read(0, 0, 3, 0, 0);
        told(x, 0, 0, 100, 110, 200, 210, 300, 310, 701, 910);
        check.due("10: point", x.guesses(1, 0), RunLaws.UNKNOWN);
        check.due("10: point below 0", x.guesses(-1, 0), RunLaws.UNKNOWN);
        check.due("10: side", x.guesses(0, 3), RunLaws.UNKNOWN);
        check.due("10: side below 0", x.guesses(0, -1), RunLaws.UNKNOWN);
        check.due("10: side without a split", x.guesses(0, 1), 0);
        check.due("11: point", x.guess(1, 0, 0), RunLaws.UNKNOWN);
        check.due("11: side", x.guess(0, 3, 0), RunLaws.UNKNOWN);
        check.due("11: side without a split", x.guess(0, 1, 0), RunLaws.UNKNOWN);
        x.split(0, 0, 2);
        told(x, 0, 1, 0, 10);
        told(x, 0, 2, 100, 110, 200, 210, 300, 310, 410, 701, 910);
    }

    private static void guessesLeftOut() {
        RunLaws x = new RunLaws();
        x.point(2);
        x.read(0, 1, 2, 0, 0);
        x.read(0, 13, 20, 0, 0);
        // BELOW 0 1 says NOT ABOVE 0 1 and UNLIKE 0 1; 18 apart has m 9.
        told(x, 0, 0, 100, 110, 200, 210, 300, 310, 400, 410, 601, 900, 910);
        RunLaws y = new RunLaws();
        y.point(2);
        y.read(0, 2, 1, 0, 0);
        y.read(0, 20, 13, 0, 0);
        // BELOW 1 0 says UNLIKE 0 1, too.
        told(y, 0, 0, 100, 110, 200, 210, 300, 310, 400, 410, 610, 900, 910);
        RunLaws z = new RunLaws();
        z.point(2);
        z.read(0, 2, 1, 0, 0);
        z.read(0, 1, 2, 0, 0);
        told(z, 0, 0, 100, 110, 200, 210, 300, 310, 801, 910);
    }

    private static void guessesOfConstants() {
        RunLaws x = new RunLaws();
        x.point(3);
        x.read(0, 5, 5, 6, 0);
        x.read(0, 5, 5, 7, 0);
        // ALIKE 0 1 is of two constants; BELOW 0 2 and 1 2 of one and a number that is none.
        told(x, 0, 0, 0, 10, 120, 220, 320, 602, 612, 920);
        check.due("8: left out ones hold all the same", x.holds(0, 0, 5, 0, 1), 1);
        check.due("8: NOT ABOVE holds", x.holds(0, 0, 7, 0, 2), 1);
    }

    private static void told(RunLaws x, int p, int side, int... codes) {
        String of = " of point " + p + ", side " + side + ", " + codes.length + " due";
        check.due("10: guesses" + of, x.guesses(p, side), codes.length);
        for (int k = 0; k < codes.length; k++) {
            check.due("11: guess " + k + of, x.guess(p, side, k), codes[k]);
        }
        check.due("11: one past the last" + of, x.guess(p, side, codes.length), RunLaws.UNKNOWN);
        check.due("11: below 0" + of, x.guess(p, side, -1), RunLaws.UNKNOWN);
        check.due("11: far off" + of, x.guess(p, side, LARGE), RunLaws.UNKNOWN);
    }

    private static void sums() {
        RunLaws x = new RunLaws();
        x.point(2);
        check.due("12: NOT TRIED", x.sums(0, 0), RunLaws.NONE);
        check.due("13: NOT TRIED", x.sum(0, 0, 0, 0), Long.MIN_VALUE);
        check.due("12: point", x.sums(1, 0), RunLaws.UNKNOWN);
        check.due("12: side", x.sums(0, 3), RunLaws.UNKNOWN);
        check.due("12: side below 0", x.sums(0, -1), RunLaws.UNKNOWN);
        x.read(0, 0, 0, 0, 0);
        basis(x, 0, 0, new long[][] {{1, 0, 0}, {0, 1, 0}});
        x.read(0, 0, 0, 0, 0);
        basis(x, 0, 0, new long[][] {{1, 0, 0}, {0, 1, 0}});
        x.read(0, 0, 7, 0, 0);
        basis(x, 0, 0, new long[][] {{1, 0, 0}});
        x.read(0, 1, 7, 0, 0);
        basis(x, 0, 0, new long[][] {});
        check.due("12: side NOT TRIED", x.sums(0, 2), RunLaws.NONE);
        check.due("13: point", x.sum(1, 0, 0, 0), Long.MIN_VALUE);
        check.due("13: side", x.sum(0, 3, 0, 0), Long.MIN_VALUE);
    }

    private static void sumsFractions() {
        RunLaws x = new RunLaws();
        x.point(1);
        x.read(0, 5, 0, 0, 0);
        basis(x, 0, 0, new long[][] {{-1, 5}});
        x.point(2);
        x.read(1, 2, 3, 0, 0);
        basis(x, 1, 0, new long[][] {{-3, 2, 0}, {-1, 0, 2}});
        x.read(1, 4, 6, 0, 0);
        basis(x, 1, 0, new long[][] {{-3, 2, 0}});
        x.point(2);
        x.read(2, -6, 4, 0, 0);
        basis(x, 2, 0, new long[][] {{2, 3, 0}, {1, 0, 6}});
        x.read(2, -6, 5, 0, 0);
        basis(x, 2, 0, new long[][] {{1, 0, 6}});
        x.point(3);
        x.read(3, 1, 2, 4, 0);
        x.read(3, 2, 5, 9, 0);
        x.read(3, 3, 1, 6, 0);
        // The readings' own determinant is -1, so b's place is the free one.
        basis(x, 3, 0, new long[][] {{11, 8, -7, 1}});
    }

    /** Readings whose first numbers come in behind, ahead of and between those that are there. */
    private static void sumsLeadsMixed() {
        RunLaws x = new RunLaws();
        x.point(3);
        x.read(0, 0, 0, 2, 0);
        basis(x, 0, 0, new long[][] {{1, 0, 0, 0}, {0, 1, 0, 0}, {0, 0, -1, 2}});
        x.read(0, 5, 0, 2, 0);
        basis(x, 0, 0, new long[][] {{0, 1, 0, 0}, {0, 0, -1, 2}});
        x.read(0, 5, 3, 2, 0);
        basis(x, 0, 0, new long[][] {{0, 0, -1, 2}});
        x.point(3);
        x.read(1, 0, 0, 2, 0);
        x.read(1, 0, 3, 4, 0);
        basis(x, 1, 0, new long[][] {{1, 0, 0, 0}, {0, 2, -3, 6}});
        x.read(1, -5, 3, 4, 0);
        basis(x, 1, 0, new long[][] {{0, 2, -3, 6}});
        x.read(1, -5, 3, 5, 0);
        basis(x, 1, 0, new long[][] {});
    }

    private static void sumsOfSides() {
        RunLaws x = new RunLaws();
        x.point(2);
        x.read(0, 1, 1, 0, 0);
        x.read(0, 2, 2, 0, 0);
        x.read(0, -1, 1, 0, 0);
        x.read(0, -2, 2, 0, 0);
        basis(x, 0, 0, new long[][] {});
        x.split(0, 0, 0);
        basis(x, 0, 1, new long[][] {{-1, 1, 0}});
        basis(x, 0, 2, new long[][] {{1, 1, 0}});
        x.split(0, 1, 2);
        basis(x, 0, 1, new long[][] {{0, -1, 2}});
        basis(x, 0, 2, new long[][] {{0, -1, 1}});
    }

    private static void basis(RunLaws x, int p, int side, long[][] rows) {
        String of = " of point " + p + ", side " + side;
        check.due("12: sums" + of, x.sums(p, side), rows.length);
        int k = x.variables(p);
        for (int s = 0; s < rows.length; s++) {
            for (int c = 0; c <= k; c++) {
                check.due("13: sum " + s + ", " + c + of, x.sum(p, side, s, c), rows[s][c]);
            }
            check.due("13: past b" + of, x.sum(p, side, s, k + 1), Long.MIN_VALUE);
            check.due("13: c below 0" + of, x.sum(p, side, s, -1), Long.MIN_VALUE);
        }
        check.due("13: past the last" + of, x.sum(p, side, rows.length, 0), Long.MIN_VALUE);
        check.due("13: below 0" + of, x.sum(p, side, -1, 0), Long.MIN_VALUE);
        check.due("13: far off" + of, x.sum(p, side, LARGE, LARGE), Long.MIN_VALUE);
    }

    /** Far readings, whose sum has large numbers: it must be 0 on each, and without a common divisor. */
    private static void sumsLargest() {
        RunLaws x = new RunLaws();
        x.point(4);
        int[][] far = {{30, -29, -30, 27}, {-30, -30, 29, 30}, {-29, 30, -30, 30}, {30, 30, 28, 29}};
        for (int[] r : far) {
            x.read(0, r[0], r[1], r[2], r[3]);
        }
        check.due("12: one sum", x.sums(0, 0), 1);
        for (int[] r : far) {
            long total = x.sum(0, 0, 0, 4);
            for (int v = 0; v < 4; v++) {
                total += x.sum(0, 0, 0, v) * r[v];
            }
            check.due("13: 0 on each reading", total, 0);
        }
        long common = 0;
        for (int c = 0; c < 5; c++) {
            common = divisor(common, Math.abs(x.sum(0, 0, 0, c)));
        }
        check.due("13: no common divisor", common, 1);
        check.isTrue("13: b above 0", x.sum(0, 0, 0, 4) > 0);
    }

    /** Forty readings, far apart, of which -7 x0 - 11 x1 - 13 x2 + 17 x3 + 5 = 0 is true. */
    private static void sumsOfMany() {
        RunLaws x = new RunLaws();
        x.point(4);
        int met = 0;
        for (int n = 0; n < 61 * 61 * 61 && x.tried(0, 0) < 40; n++) {
            int a = n % 61 - 30;
            int b = n / 61 * 29 % 61 - 30;
            int c = n / 61 / 61 * 43 % 61 - 30;
            int rest = 7 * a + 11 * b + 13 * c - 5;
            if (rest % 17 == 0 && Math.abs(rest / 17) <= 30) {
                met++;
                if (met % 97 == 1) {
                    x.read(0, a, b, c, rest / 17);
                }
            }
        }
        check.due("4: forty", x.tried(0, 0), 40);
        basis(x, 0, 0, new long[][] {{-7, -11, -13, 17, 5}});
    }

    private static long divisor(long a, long b) {
        return b == 0 ? a : divisor(b, a % b);
    }
}
