/** Promises 8 to 13: each sentence that names an edge of guesses and sums on its own. */
public final class GuessesEdgesTest {
    private static final int UNKNOWN = RunLaws.UNKNOWN;
    private static final int OUTSIDE = RunLaws.OUTSIDE;
    private static final int NONE = RunLaws.NONE;
    private static final int LOST = -1000;
    private static final long NO_SUM = Long.MIN_VALUE;
    private static final Edges edges = new Edges(GuessesEdgesTest.class);

    public static void main(String[] args) {
        edges.runAll(8, 13);
    }

    // ---- 8: holds

    static void p08NotTriedWithoutReadings() {
        edges.run(8, "of none they are NOT TRIED")
            .after("point(2)")
            .each("holds(0, 0, #, 0, 1)", NONE, 0, 1, 2, 3, 4, 5, 6, 7, 8, 9)
            .after("read(0, 5, 6, 0, 0)")
            .each("holds(0, 0, #, 0, 1)", 1, 0, 2, 3, 4, 6, 7, 8, 9)
            .each("holds(0, 0, #, 0, 1)", 0, 1, 5);
    }

    static void p08NotTriedOfAnEmptySide() {
        edges.run(8, "of none they are NOT TRIED")
            .after("point(2)", "split(0, 0, 0)", "read(0, 5, 6, 0, 0)")
            .each("holds(0, 2, #, 0, 1)", NONE, 0, 1, 2, 3, 4, 5, 6, 7, 8, 9)
            .each("holds(0, 1, #, 0, 1)", 1, 0, 2, 3, 4, 6, 7, 8, 9)
            .after("split(0, 0, 6)")
            .each("holds(0, 1, #, 0, 1)", NONE, 0, 1, 2, 3, 4, 5, 6, 7, 8, 9)
            .each("holds(0, 2, #, 0, 1)", 1, 0, 2, 3, 4, 6, 7, 8, 9);
    }

    static void p08UnknownPoint() {
        edges.run(8, "UNKNOWN: POINT, SIDE, i, j")
            .after("point(1)", "point(1)", "read(0, 1, 0, 0, 0)", "read(1, 1, 0, 0, 0)")
            .outside("holds(#, 0, 0, 0, 0)", 0, 1, UNKNOWN)
            .each("holds(#, 0, 0, 0, 0)", 1, 0, 1);
    }

    static void p08UnknownSide() {
        edges.run(8, "UNKNOWN: POINT, SIDE, i, j")
            .after("point(1)", "split(0, 0, 1)", "read(0, 0, 0, 0, 0)", "read(0, 1, 0, 0, 0)")
            .outside("holds(0, #, 2, 0, 0)", 0, 2, UNKNOWN)
            .each("holds(0, #, 2, 0, 0)", 1, 0, 1, 2);
    }

    static void p08UnknownFirst() {
        Run run = edges.run(8, "UNKNOWN: POINT, SIDE, i, j");
        for (int p = 0; p < 4; p++) {
            run.after("point(" + (p + 1) + ")", "read(" + p + ", 1, 1, 1, 1)");
            run.outside("holds(" + p + ", 0, 0, #, 0)", 0, p, UNKNOWN);
            run.outside("holds(" + p + ", 0, 7, #, 0)", 0, p, UNKNOWN);
            run.due("holds(" + p + ", 0, 0, " + p + ", 0)", 1);
        }
    }

    static void p08UnknownSecondOfPairs() {
        Run run = edges.run(8, "(j of SHAPES 5 to 8 alone; else it is not looked at)").after("point(3)");
        for (int shape = 5; shape <= 8; shape++) {
            run.outside("holds(0, 0, " + shape + ", 0, #)", 0, 2, UNKNOWN);
            run.due("holds(0, 0, " + shape + ", 0, 2)", NONE);
        }
    }

    static void p08SecondIsNotLookedAt() {
        Run run = edges.run(8, "else it is not looked at").after("point(1)", "read(0, 4, 0, 0, 0)");
        for (int shape : new int[] {0, 2, 3, 4, 9}) {
            run.outside("holds(0, 0, " + shape + ", 0, #)", 0, 0, 1);
            run.due("holds(0, 0, " + shape + ", 0, 0)", 1);
        }
        run.outside("holds(0, 0, 1, 0, #)", 0, 0, 0);
    }

    static void p08ShapeOutside() {
        edges.run(8, "OUTSIDE: shape; i, j that it has not.")
            .after("point(2)")
            .outside("holds(0, 0, #, 0, 1)", 0, 9, OUTSIDE)
            .after("read(0, 1, 2, 0, 0)")
            .outside("holds(0, 0, #, 0, 1)", 0, 9, OUTSIDE)
            .outside("holds(0, 0, #, 0, MAX)", 0, 9, OUTSIDE)
            .due("holds(0, 0, 0, 0, MAX)", 1)
            .due("holds(0, 0, 9, 0, MIN)", 1);
    }

    static void p08AlikeAndUnlikeHaveRisingPairsAlone() {
        edges.run(8, "(5, 8: i below j alone; 6, 7: i, j unlike.)")
            .after("point(4)", "read(0, 1, 1, 1, 1)")
            .each("holds(0, 0, #, 1, 0)", OUTSIDE, 5, 8)
            .each("holds(0, 0, #, 3, 2)", OUTSIDE, 5, 8)
            .each("holds(0, 0, #, 3, 0)", OUTSIDE, 5, 8)
            .each("holds(0, 0, #, 0, 0)", OUTSIDE, 5, 8)
            .each("holds(0, 0, #, 3, 3)", OUTSIDE, 5, 8)
            .due("holds(0, 0, 5, 0, 1)", 1)
            .due("holds(0, 0, 5, 2, 3)", 1)
            .due("holds(0, 0, 8, 0, 3)", 0);
    }

    static void p08BelowAndNotAboveHaveUnlikePairsAlone() {
        edges.run(8, "6, 7: i, j unlike.")
            .after("point(4)", "read(0, 1, 2, 3, 4)")
            .each("holds(0, 0, 6, #, #)", OUTSIDE, 0, 1, 2, 3)
            .each("holds(0, 0, 7, #, #)", OUTSIDE, 0, 1, 2, 3)
            .each("holds(0, 0, #, 0, 3)", 1, 6, 7)
            .each("holds(0, 0, #, 3, 0)", 0, 6, 7)
            .each("holds(0, 0, #, 3, 2)", 0, 6, 7);
    }

    static void p08UnknownAheadOfOutside() {
        edges.run(8, "UNKNOWN: POINT, SIDE, i, j (j of SHAPES 5 to 8 alone; else it is not looked at); OUTSIDE: shape")
            .after("point(2)", "read(0, 1, 2, 0, 0)")
            .each("holds(1, 0, #, 0, 0)", UNKNOWN, -1, 10)
            .each("holds(0, 3, #, 0, 0)", UNKNOWN, -1, 10)
            .each("holds(0, 0, #, 2, 0)", UNKNOWN, -1, 10)
            .each("holds(0, 0, #, 2, 0)", UNKNOWN, 5, 8)
            .each("holds(0, 0, #, 1, -1)", UNKNOWN, 5, 8)
            .each("holds(0, 0, #, 2, 2)", UNKNOWN, 6, 7);
    }

    static void p08RefusedAheadOfNotTried() {
        edges.run(8, "Whether a GUESS holds: 1, 0; NONE: NOT TRIED.")
            .after("point(2)")
            .due("holds(0, 0, 10, 0, 0)", OUTSIDE)
            .due("holds(0, 0, 5, 1, 0)", OUTSIDE)
            .due("holds(0, 0, 6, 1, 1)", OUTSIDE)
            .due("holds(0, 0, 0, 2, 0)", UNKNOWN)
            .due("holds(0, 3, 0, 0, 0)", UNKNOWN)
            .due("holds(0, 2, 0, 0, 0)", NONE);
    }

    static void p08ConstantUpToTheFirstOther() {
        Run run = edges.run(8, "0 CONSTANT i: x(i) is c in all.").after("point(1)");
        for (int r = 0; r < 39; r++) {
            run.after("read(0, -30, 0, 0, 0)").due("holds(0, 0, 0, 0, 0)", 1);
        }
        run.after("read(0, -29, 0, 0, 0)").due("holds(0, 0, 0, 0, 0)", 0);
    }

    static void p08FewIsTwoOrThree() {
        edges.run(8, "1 FEW i: x(i) has two or three unlike numbers in all of them (not one).")
            .after("point(1)", "read(0, 0, 0, 0, 0)", "read(0, 0, 0, 0, 0)")
            .due("holds(0, 0, 1, 0, 0)", 0)
            .after("read(0, 30, 0, 0, 0)")
            .due("holds(0, 0, 1, 0, 0)", 1)
            .after("read(0, -30, 0, 0, 0)", "read(0, 0, 0, 0, 0)", "read(0, 30, 0, 0, 0)")
            .due("holds(0, 0, 1, 0, 0)", 1)
            .after("read(0, 1, 0, 0, 0)")
            .due("holds(0, 0, 1, 0, 0)", 0)
            .after("read(0, 1, 0, 0, 0)", "read(0, 0, 0, 0, 0)")
            .due("holds(0, 0, 1, 0, 0)", 0);
    }

    static void p08LeastAndGreatestHoldOfAny() {
        edges.run(8, "(2, 3 hold of any.)")
            .after("point(1)", "read(0, 0, 0, 0, 0)")
            .each("holds(0, 0, #, 0, 0)", 1, 2, 3)
            .after("read(0, -30, 0, 0, 0)", "read(0, 30, 0, 0, 0)", "read(0, 7, 0, 0, 0)")
            .each("holds(0, 0, #, 0, 0)", 1, 2, 3)
            .due("number(0, 0, 2, 0, 0)", -30)
            .due("number(0, 0, 3, 0, 0)", 30);
    }

    static void p08RestFromTwoToTwelve() {
        // How far two numbers are apart, and the greatest m; none of 2 to 12 divides 1, 13, 17 or 59.
        int[][] apart = {{1, 0}, {2, 2}, {11, 11}, {12, 12}, {13, 0}, {14, 7}, {17, 0}, {22, 11}, {24, 12}, {26, 2},
            {39, 3}, {48, 12}, {58, 2}, {59, 0}, {60, 12}};
        for (int[] pair : apart) {
            edges.run(8, "there is an m, 2 to 12, by which all x(i) leave the same rest")
                .after("point(1)", "read(0, -30, 0, 0, 0)")
                .due("number(0, 0, 4, 0, 0)", 12)
                .after("read(0, " + (pair[0] - 30) + ", 0, 0, 0)")
                .due("holds(0, 0, 4, 0, 0)", pair[1] > 0 ? 1 : 0)
                .due("number(0, 0, 4, 0, 0)", pair[1] > 0 ? pair[1] : LOST);
        }
    }

    static void p08RestOfAllOfThem() {
        edges.run(8, "of the greatest m.")
            .after("point(1)", "read(0, 0, 0, 0, 0)", "read(0, 24, 0, 0, 0)")
            .due("number(0, 0, 4, 0, 0)", 12)
            .after("read(0, 18, 0, 0, 0)")
            .due("number(0, 0, 4, 0, 0)", 6)
            .after("read(0, -4, 0, 0, 0)")
            .due("number(0, 0, 4, 0, 0)", 2)
            .after("read(0, 0, 0, 0, 0)")
            .due("holds(0, 0, 4, 0, 0)", 1)
            .after("read(0, 1, 0, 0, 0)")
            .due("holds(0, 0, 4, 0, 0)", 0)
            .after("read(0, 0, 0, 0, 0)")
            .due("holds(0, 0, 4, 0, 0)", 0);
    }

    static void p08RisesWhileNeverBelow() {
        edges.run(8, "9 RISES i: x(i) is never below that of the reading ahead.")
            .after("point(1)", "read(0, -30, 0, 0, 0)")
            .due("holds(0, 0, 9, 0, 0)", 1)
            .after("read(0, -30, 0, 0, 0)")
            .due("holds(0, 0, 9, 0, 0)", 1)
            .after("read(0, 30, 0, 0, 0)")
            .due("holds(0, 0, 9, 0, 0)", 1)
            .after("read(0, 29, 0, 0, 0)")
            .due("holds(0, 0, 9, 0, 0)", 0)
            .after("read(0, 30, 0, 0, 0)")
            .due("holds(0, 0, 9, 0, 0)", 0);
    }

    static void p08RisesOnEachSideInItsOrder() {
        edges.run(8, "(in the order in which they came)")
            .after("point(1)", "split(0, 0, 0)", "read(0, 1, 0, 0, 0)", "read(0, -9, 0, 0, 0)",
                "read(0, 1, 0, 0, 0)", "read(0, -8, 0, 0, 0)")
            .due("holds(0, 0, 9, 0, 0)", 0)
            .due("holds(0, 1, 9, 0, 0)", 1)
            .due("holds(0, 2, 9, 0, 0)", 1)
            .after("read(0, 0, 0, 0, 0)")
            .due("holds(0, 1, 9, 0, 0)", 0)
            .due("holds(0, 2, 9, 0, 0)", 1);
    }

    static void p08PairsThatMeetOnce() {
        edges.run(8, "6 BELOW i j: x(i) is below x(j). 7 NOT ABOVE i j. 8 UNLIKE i j: x(i) is never x(j).")
            .after("point(2)", "read(0, -30, 30, 0, 0)", "read(0, 29, 30, 0, 0)")
            .each("holds(0, 0, #, 0, 1)", 1, 6, 7, 8)
            .each("holds(0, 0, #, 1, 0)", 0, 6, 7)
            .after("read(0, 30, 30, 0, 0)")
            .due("holds(0, 0, 5, 0, 1)", 0)
            .due("holds(0, 0, 6, 0, 1)", 0)
            .due("holds(0, 0, 7, 0, 1)", 1)
            .due("holds(0, 0, 8, 0, 1)", 0)
            .after("read(0, 30, 29, 0, 0)")
            .each("holds(0, 0, #, 0, 1)", 0, 5, 6, 7, 8)
            .each("holds(0, 0, #, 1, 0)", 0, 6, 7);
    }

    static void p08PairsThatCross() {
        edges.run(8, "8 UNLIKE i j: x(i) is never x(j).")
            .after("point(2)", "read(0, 1, 2, 0, 0)", "read(0, 2, 1, 0, 0)")
            .due("holds(0, 0, 8, 0, 1)", 1)
            .each("holds(0, 0, #, 0, 1)", 0, 5, 6, 7)
            .each("holds(0, 0, #, 1, 0)", 0, 6, 7);
    }

    static void p08AlikeUpToTheFirstOther() {
        edges.run(8, "5 ALIKE i j: x(i) is x(j).")
            .after("point(2)", "read(0, 30, 30, 0, 0)", "read(0, -30, -30, 0, 0)")
            .due("holds(0, 0, 5, 0, 1)", 1)
            .due("holds(0, 0, 7, 0, 1)", 1)
            .due("holds(0, 0, 7, 1, 0)", 1)
            .after("read(0, 30, -30, 0, 0)")
            .due("holds(0, 0, 5, 0, 1)", 0)
            .due("holds(0, 0, 7, 0, 1)", 0)
            .due("holds(0, 0, 7, 1, 0)", 1);
    }

    // ---- 9: number

    static void p09LostWhereItDoesNotHold() {
        edges.run(9, "LOST (-1000): it does not hold")
            .after("point(1)", "read(0, 3, 0, 0, 0)")
            .each("number(0, 0, 1, 0, #)", LOST, 0, 2, 3, 4)
            .after("read(0, 4, 0, 0, 0)")
            .due("number(0, 0, 0, 0, 0)", LOST)
            .each("number(0, 0, 4, 0, #)", LOST, 0, 1)
            .due("number(0, 0, 1, 0, 0)", 2)
            .after("read(0, 5, 0, 0, 0)")
            .due("number(0, 0, 1, 0, 0)", 3)
            .after("read(0, 6, 0, 0, 0)")
            .each("number(0, 0, 1, 0, #)", LOST, 0, 2, 3, 4);
    }

    static void p09LostWhereNotTried() {
        edges.run(9, "is NOT TRIED")
            .after("point(1)")
            .each("number(0, 0, #, 0, 0)", LOST, 0, 1, 2, 3, 4)
            .after("split(0, 0, 0)", "read(0, 1, 0, 0, 0)")
            .each("number(0, 2, #, 0, 0)", LOST, 0, 1, 2, 3, 4)
            .each("number(0, 1, #, 0, 0)", 1, 0, 2, 3);
    }

    static void p09LostWhereUnknown() {
        edges.run(9, "LOST (-1000): it does not hold, is NOT TRIED, UNKNOWN, OUTSIDE, there is none such.")
            .after("point(2)", "point(4)", "read(0, 1, 1, 0, 0)", "read(1, 1, 1, 1, 1)")
            .outside("number(#, 0, 2, 0, 0)", 0, 1, LOST)
            .outside("number(0, #, 2, 0, 0)", 0, 2, LOST)
            .outside("number(0, 0, 2, #, 0)", 0, 1, LOST)
            .outside("number(1, 0, 2, #, 0)", 0, 3, LOST)
            .due("number(1, 0, 2, 3, 0)", 1);
    }

    static void p09LostWhereTheShapeIsOutside() {
        edges.run(9, "UNKNOWN, OUTSIDE, there is none such.")
            .after("point(1)", "read(0, 1, 0, 0, 0)", "read(0, 3, 0, 0, 0)")
            .outside("number(0, 0, #, 0, 0)", 0, 9, LOST)
            .outside("number(0, 0, #, 0, 1)", 0, 9, LOST)
            .outside("number(0, 0, #, 0, 2)", 0, 9, LOST);
    }

    static void p09PairsAndRisesHaveNoNumber() {
        Run run = edges.run(9, "there is none such.").after("point(2)", "read(0, 1, 2, 0, 0)");
        for (int shape = 5; shape <= 9; shape++) {
            run.each("number(0, 0, " + shape + ", 0, #)", LOST, 0, 1, 2, 3, 4);
        }
    }

    static void p09OneNumberOnly() {
        edges.run(9, "what = 0: of CONSTANT, LEAST, GREATEST c")
            .after("point(1)", "read(0, -30, 0, 0, 0)")
            .outside("number(0, 0, 0, 0, #)", 0, 0, LOST)
            .outside("number(0, 0, 2, 0, #)", 0, 0, LOST)
            .outside("number(0, 0, 3, 0, #)", 0, 0, LOST)
            .each("number(0, 0, 2, 0, #)", LOST, 2, 3, 4)
            .each("number(0, 0, #, 0, 0)", -30, 0, 2, 3)
            .after("read(0, 30, 0, 0, 0)")
            .due("number(0, 0, 2, 0, 0)", -30)
            .due("number(0, 0, 3, 0, 0)", 30);
    }

    static void p09RestHasTwoNumbers() {
        edges.run(9, "1: of REST the rest")
            .after("point(1)", "read(0, 7, 0, 0, 0)")
            .outside("number(0, 0, 4, 0, #)", 0, 1, LOST)
            .each("number(0, 0, 4, 0, #)", LOST, 2, 3, 4)
            .due("number(0, 0, 4, 0, 0)", 12)
            .due("number(0, 0, 4, 0, 1)", 7);
    }

    static void p09RestIsNeverBelowNought() {
        int[][] due = {{-30, 6}, {-29, 7}, {-25, 11}, {-24, 0}, {-13, 11}, {-12, 0}, {-1, 11}, {0, 0}, {11, 11},
            {12, 0}, {30, 6}};
        for (int[] pair : due) {
            edges.run(9, "leave the same rest (0 to m - 1)")
                .after("point(1)", "read(0, " + pair[0] + ", 0, 0, 0)")
                .due("number(0, 0, 4, 0, 0)", 12)
                .due("number(0, 0, 4, 0, 1)", pair[1]);
        }
        edges.run(9, "leave the same rest (0 to m - 1)")
            .after("point(1)", "read(0, -30, 0, 0, 0)", "read(0, 25, 0, 0, 0)")
            .due("number(0, 0, 4, 0, 0)", 11)
            .due("number(0, 0, 4, 0, 1)", 3);
    }

    static void p09FewHasItsNumbersRising() {
        edges.run(9, "2, 3, 4: of FEW its numbers, rising.")
            .after("point(1)", "read(0, 30, 0, 0, 0)", "read(0, -30, 0, 0, 0)")
            .due("number(0, 0, 1, 0, 0)", 2)
            .due("number(0, 0, 1, 0, 1)", LOST)
            .due("number(0, 0, 1, 0, 2)", -30)
            .due("number(0, 0, 1, 0, 3)", 30)
            .due("number(0, 0, 1, 0, 4)", LOST)
            .after("read(0, 0, 0, 0, 0)", "read(0, 30, 0, 0, 0)")
            .due("number(0, 0, 1, 0, 0)", 3)
            .due("number(0, 0, 1, 0, 2)", -30)
            .due("number(0, 0, 1, 0, 3)", 0)
            .due("number(0, 0, 1, 0, 4)", 30)
            .outside("number(0, 0, 1, 0, #)", 0, 4, LOST);
    }

    static void p09FewInEachOrderOfComing() {
        int[][] orders = {{1, 2, 3}, {1, 3, 2}, {2, 1, 3}, {2, 3, 1}, {3, 1, 2}, {3, 2, 1}};
        for (int[] order : orders) {
            Run run = edges.run(9, "2, 3, 4: of FEW its numbers, rising.").after("point(1)");
            for (int x : order) {
                run.after("read(0, " + x + ", 0, 0, 0)");
            }
            run.due("number(0, 0, 1, 0, 2)", 1).due("number(0, 0, 1, 0, 3)", 2).due("number(0, 0, 1, 0, 4)", 3);
        }
    }

    static void p09OfEachSide() {
        edges.run(9, "Its number")
            .after("point(1)", "split(0, 0, 0)", "read(0, 4, 0, 0, 0)", "read(0, -2, 0, 0, 0)", "read(0, 8, 0, 0, 0)")
            .due("number(0, 0, 1, 0, 0)", 3)
            .due("number(0, 1, 1, 0, 0)", 2)
            .due("number(0, 2, 0, 0, 0)", -2)
            .due("number(0, 0, 4, 0, 0)", 2)
            .due("number(0, 1, 4, 0, 0)", 4)
            .due("number(0, 2, 4, 0, 0)", 12)
            .due("number(0, 2, 4, 0, 1)", 10);
    }

    // ---- 10, 11: guesses, guess

    static void p10UnknownPointAndSide() {
        edges.run(10, "How many GUESSES are TOLD. UNKNOWN: POINT, SIDE.")
            .after("point(1)", "read(0, 1, 0, 0, 0)")
            .outside("guesses(#, 0)", 0, 0, UNKNOWN)
            .outside("guesses(0, #)", 0, 2, UNKNOWN)
            .due("guesses(0, 0)", 1)
            .each("guesses(0, #)", 0, 1, 2);
    }

    static void p10NoneWithoutReadings() {
        edges.run(10, "A GUESS is TOLD, if it holds")
            .after("point(4)")
            .each("guesses(0, #)", 0, 0, 1, 2)
            .after("split(0, 0, 0)", "read(0, 1, 2, 3, 4)")
            .due("guesses(0, 0)", 4)
            .due("guesses(0, 1)", 4)
            .due("guesses(0, 2)", 0);
    }

    static void p10ConstantSaysTheOthersOfOne() {
        edges.run(10, "of FEW, LEAST, GREATEST, REST, RISES i: CONSTANT i")
            .after("point(1)", "read(0, 6, 0, 0, 0)")
            .told(0, 0, 0)
            .each("holds(0, 0, #, 0, 0)", 1, 2, 3, 4, 9)
            .after("read(0, 12, 0, 0, 0)")
            .told(0, 0, 100, 200, 300, 400, 900);
    }

    static void p10AlikeSaysNotAboveBothWays() {
        edges.run(10, "of NOT ABOVE i j: ALIKE of both, BELOW i j")
            .after("point(2)", "read(0, 1, 1, 0, 0)", "read(0, 2, 2, 0, 0)")
            .due("holds(0, 0, 7, 0, 1)", 1)
            .due("holds(0, 0, 7, 1, 0)", 1)
            .told(0, 0, 100, 110, 200, 210, 300, 310, 501, 900, 910);
    }

    static void p10BelowSaysNotAboveAndUnlike() {
        edges.run(10, "of UNLIKE i j: BELOW i j, BELOW j i")
            .after("point(2)", "read(0, 1, 3, 0, 0)", "read(0, 2, 4, 0, 0)", "point(2)", "read(1, 3, 1, 0, 0)",
                "read(1, 4, 2, 0, 0)")
            .told(0, 0, 100, 110, 200, 210, 300, 310, 601, 900, 910)
            .due("holds(0, 0, 7, 0, 1)", 1)
            .due("holds(0, 0, 8, 0, 1)", 1)
            .told(1, 0, 100, 110, 200, 210, 300, 310, 610, 900, 910)
            .due("holds(1, 0, 7, 1, 0)", 1)
            .due("holds(1, 0, 8, 0, 1)", 1);
    }

    static void p10NotAboveAndUnlikeThatNoneSays() {
        edges.run(10, "and none of these does that says it")
            .after("point(2)", "read(0, 1, 1, 0, 0)", "read(0, 2, 3, 0, 0)", "point(2)", "read(1, 1, 1, 0, 0)",
                "read(1, 3, 2, 0, 0)", "point(2)", "read(2, 1, 2, 0, 0)", "read(2, 3, 1, 0, 0)")
            .told(0, 0, 100, 110, 200, 210, 300, 310, 410, 701, 900, 910)
            .told(1, 0, 100, 110, 200, 210, 300, 310, 400, 710, 900, 910)
            .told(2, 0, 100, 110, 200, 210, 300, 310, 400, 801, 900);
    }

    static void p10TwoConstantsSayPairs() {
        edges.run(10, "of ALIKE, BELOW, NOT ABOVE, UNLIKE of two: CONSTANT of both of them.")
            .after("point(3)", "read(0, 5, 5, 6, 0)")
            .told(0, 0, 0, 10, 20)
            .due("holds(0, 0, 5, 0, 1)", 1)
            .due("holds(0, 0, 6, 0, 2)", 1)
            .due("holds(0, 0, 7, 1, 0)", 1)
            .due("holds(0, 0, 8, 1, 2)", 1);
    }

    static void p10OneConstantSaysNoPair() {
        edges.run(10, "CONSTANT of both of them.")
            .after("point(2)", "read(0, 5, 6, 0, 0)", "read(0, 5, 7, 0, 0)")
            .told(0, 0, 0, 110, 210, 310, 601, 910)
            .after("point(2)", "read(1, 5, 5, 0, 0)", "read(1, 4, 5, 0, 0)")
            .told(1, 0, 10, 100, 200, 300, 701)
            .after("point(2)", "read(2, 5, 4, 0, 0)", "read(2, 5, 6, 0, 0)")
            .told(2, 0, 0, 110, 210, 310, 410, 801, 910);
    }

    static void p11UnknownPlace() {
        edges.run(11, "The CODE of the k-th that is TOLD. UNKNOWN.")
            .after("point(1)")
            .each("guess(0, 0, #)", UNKNOWN, -1, 0, 1)
            .after("read(0, 6, 0, 0, 0)", "read(0, 12, 0, 0, 0)")
            .outside("guess(0, 0, #)", 0, 4, UNKNOWN)
            .due("guess(0, 0, 0)", 100)
            .due("guess(0, 0, 4)", 900);
    }

    static void p11UnknownPointAndSide() {
        edges.run(11, "The CODE of the k-th that is TOLD. UNKNOWN.")
            .after("point(1)", "read(0, 6, 0, 0, 0)")
            .outside("guess(#, 0, 0)", 0, 0, UNKNOWN)
            .outside("guess(0, #, 0)", 0, 2, UNKNOWN)
            .each("guess(0, #, 0)", UNKNOWN, 1, 2)
            .due("guess(0, 0, 0)", 0);
    }

    static void p11OrderOfMany() {
        edges.run(11, "TOLD ones stand in order of SHAPE, i, j.")
            .after("point(4)", "read(0, 1, 2, 3, 4)", "read(0, 2, 4, 6, 8)")
            .told(0, 0, 100, 110, 120, 130, 200, 210, 220, 230, 300, 310, 320, 330, 410, 420, 430, 601, 602, 603, 612,
                613, 623, 900, 910, 920, 930)
            .after("point(4)", "read(1, 4, 3, 2, 1)", "read(1, 8, 6, 4, 2)")
            .told(1, 0, 100, 110, 120, 130, 200, 210, 220, 230, 300, 310, 320, 330, 400, 410, 420, 610, 620, 621, 630,
                631, 632, 900, 910, 920, 930);
    }

    static void p11CodeOfOneHasNoughtForItsSecond() {
        edges.run(11, "100 SHAPE + 10 i + j (j 0 where there is none).")
            .after("point(4)", "read(0, 1, 1, 1, 1)")
            .told(0, 0, 0, 10, 20, 30);
    }

    // ---- 12, 13: sums, sum

    static void p12UnknownPointAndSide() {
        edges.run(12, "UNKNOWN: POINT, SIDE.")
            .after("point(1)", "read(0, 1, 0, 0, 0)")
            .outside("sums(#, 0)", 0, 0, UNKNOWN)
            .outside("sums(0, #)", 0, 2, UNKNOWN)
            .due("sums(0, 0)", 1);
    }

    static void p12NotTried() {
        edges.run(12, "(Without READINGS: NOT TRIED.)")
            .after("point(4)")
            .each("sums(0, #)", NONE, 0, 1, 2)
            .after("split(0, 0, 0)", "read(0, 1, 1, 1, 1)")
            .due("sums(0, 0)", 4)
            .due("sums(0, 1)", 4)
            .due("sums(0, 2)", NONE)
            .after("split(0, 0, 2)")
            .due("sums(0, 1)", NONE)
            .due("sums(0, 2)", 4);
    }

    static void p12AsManyAsThereAreIndependentOnes() {
        edges.run(12, "BASIS of them: as many as there are independent ones")
            .after("point(4)", "read(0, 0, 0, 0, 0)")
            .due("sums(0, 0)", 4)
            .times(3, "read(0, 0, 0, 0, 0)")
            .due("sums(0, 0)", 4)
            .after("read(0, 1, 0, 0, 0)")
            .due("sums(0, 0)", 3)
            .after("read(0, 0, 1, 0, 0)")
            .due("sums(0, 0)", 2)
            .after("read(0, 1, 1, 0, 0)")
            .due("sums(0, 0)", 2)
            .after("read(0, 0, 0, 1, 0)")
            .due("sums(0, 0)", 1)
            .after("read(0, 0, 0, 0, 1)")
            .due("sums(0, 0)", 0)
            .times(31, "read(0, 30, -30, 29, 7)")
            .due("sums(0, 0)", 0)
            .due("sum(0, 0, 0, 0)", NO_SUM);
    }

    static void p13NoSuchPointSideSumOrPlace() {
        edges.run(13, "Long.MIN_VALUE: there is none.")
            .after("point(2)", "read(0, 1, 2, 0, 0)")
            .outside("sum(#, 0, 0, 0)", 0, 0, NO_SUM)
            .outside("sum(0, #, 0, 0)", 0, 2, NO_SUM)
            .each("sum(0, #, 0, 0)", NO_SUM, 1, 2)
            .outside("sum(0, 0, #, 0)", 0, 1, NO_SUM)
            .outside("sum(0, 0, 0, #)", 0, 2, NO_SUM)
            .outside("sum(0, 0, 1, #)", 0, 2, NO_SUM)
            .basis(0, 0, Run.row(-2, 1, 0), Run.row(-1, 0, 1));
    }

    static void p13NotTried() {
        edges.run(13, "Long.MIN_VALUE: there is none.")
            .after("point(1)", "split(0, 0, 0)")
            .each("sum(0, #, 0, 0)", NO_SUM, 0, 1, 2)
            .after("read(0, 3, 0, 0, 0)")
            .basis(0, 0, Run.row(-1, 3))
            .basis(0, 1, Run.row(-1, 3))
            .due("sum(0, 2, 0, 0)", NO_SUM);
    }

    static void p13PlacesOfEachSize() {
        edges.run(13, "Number c (0 .. k - 1: a; k: b) of the s-th SUM of BASIS.")
            .after("point(1)", "point(2)", "point(3)", "point(4)")
            .after("read(0, 2, 9, 9, 9)", "read(1, 2, 4, 9, 9)", "read(2, 2, 4, 6, 9)", "read(3, 2, 4, 6, 8)")
            .basis(0, 0, Run.row(-1, 2, NO_SUM))
            .basis(1, 0, Run.row(-2, 1, 0, NO_SUM), Run.row(-1, 0, 2, NO_SUM))
            .basis(2, 0, Run.row(-2, 1, 0, 0, NO_SUM), Run.row(-3, 0, 1, 0), Run.row(-1, 0, 0, 2, NO_SUM))
            .basis(3, 0, Run.row(-2, 1, 0, 0, 0, NO_SUM), Run.row(-3, 0, 1, 0, 0), Run.row(-4, 0, 0, 1, 0),
                Run.row(-1, 0, 0, 0, 2, NO_SUM));
    }

    static void p13NoughtInAll() {
        edges.run(13, "FREE are the places that are no such first ones")
            .after("point(4)", "read(0, 0, 0, 0, 0)")
            .basis(0, 0, Run.row(1, 0, 0, 0, 0), Run.row(0, 1, 0, 0, 0), Run.row(0, 0, 1, 0, 0),
                Run.row(0, 0, 0, 1, 0));
    }

    static void p13EndsOfTheNumbers() {
        edges.run(13, "told with whole numbers without a common divisor, the one in its FREE place above 0.")
            .after("point(1)", "point(1)", "point(4)", "point(4)")
            .after("read(0, 30, 0, 0, 0)", "read(1, -30, 0, 0, 0)", "read(2, 30, 30, 30, 30)",
                "read(3, -30, 30, -29, 28)")
            .basis(0, 0, Run.row(-1, 30))
            .basis(1, 0, Run.row(1, 30))
            .basis(2, 0, Run.row(-1, 1, 0, 0, 0), Run.row(-1, 0, 1, 0, 0), Run.row(-1, 0, 0, 1, 0),
                Run.row(-1, 0, 0, 0, 30))
            .basis(3, 0, Run.row(1, 1, 0, 0, 0), Run.row(-29, 0, 30, 0, 0), Run.row(14, 0, 0, 15, 0),
                Run.row(1, 0, 0, 0, 30));
    }

    static void p13CommonDivisorsAreDividedOut() {
        edges.run(13, "without a common divisor")
            .after("point(2)", "read(0, 4, 6, 0, 0)")
            .basis(0, 0, Run.row(-3, 2, 0), Run.row(-1, 0, 4))
            .after("read(0, 8, 12, 0, 0)")
            .basis(0, 0, Run.row(-3, 2, 0))
            .after("read(0, -12, -18, 0, 0)")
            .basis(0, 0, Run.row(-3, 2, 0));
    }

    /** Worked out with fractions outside of Java: products of these leave the ints. */
    static void p13LargestNumbers() {
        edges.run(13, "told with whole numbers without a common divisor")
            .after("point(4)", "point(4)")
            .after("read(0, 30, -30, -30, -29)", "read(0, 30, -30, 30, 30)", "read(0, -30, -29, -30, 30)",
                "read(0, 30, 30, -29, 30)")
            .basis(0, 0, Run.row(-208919, 208860, 212400, -216000, 12641370))
            .after("read(1, -30, -29, -30, -30)", "read(1, -30, -30, 30, 30)", "read(1, 29, -30, 30, -30)",
                "read(1, 30, -30, -29, 29)")
            .basis(1, 0, Run.row(3540, 421320, 3541, 3481, 12535140))
            .after("read(1, 30, 30, 30, 30)")
            .due("sums(1, 0)", 0);
    }

    static void p13LargestNumbersInEachOrderOfComing() {
        String[] far = {"read(0, 30, -30, -30, -29)", "read(0, 30, -30, 30, 30)", "read(0, -30, -29, -30, 30)",
            "read(0, 30, 30, -29, 30)"};
        for (int code = 0; code < 256; code++) {
            int[] order = {code % 4, code / 4 % 4, code / 16 % 4, code / 64};
            if ((1 << order[0] | 1 << order[1] | 1 << order[2] | 1 << order[3]) != 15) {
                continue;
            }
            Run run = edges.run(13, "brought by rows to the shape in which each row's first number is alone in its place")
                .after("point(4)");
            for (int r : order) {
                run.after(far[r]);
            }
            run.basis(0, 0, Run.row(-208919, 208860, 212400, -216000, 12641370));
        }
    }

    /** Readings whose first numbers come in behind, ahead of and between those that are there. */
    static void p13FirstNumbersInEachOrderOfComing() {
        edges.run(13, "and further behind than that of the row ahead")
            .after("point(3)", "read(0, 0, 0, 2, 0)")
            .basis(0, 0, Run.row(1, 0, 0, 0), Run.row(0, 1, 0, 0), Run.row(0, 0, -1, 2))
            .after("read(0, 5, 0, 2, 0)")
            .basis(0, 0, Run.row(0, 1, 0, 0), Run.row(0, 0, -1, 2))
            .after("read(0, 5, 3, 2, 0)")
            .basis(0, 0, Run.row(0, 0, -1, 2))
            .after("point(3)", "read(1, 0, 0, 2, 0)", "read(1, 0, 3, 4, 0)")
            .basis(1, 0, Run.row(1, 0, 0, 0), Run.row(0, 2, -3, 6))
            .after("read(1, -5, 3, 4, 0)")
            .basis(1, 0, Run.row(0, 2, -3, 6));
    }

    static void p13FewerRowsBehindANewSplit() {
        edges.run(13, "SUMS of a POINT and a SIDE")
            .after("point(2)", "read(0, 3, 0, 0, 0)", "read(0, 0, 5, 0, 0)", "split(0, 0, 0)")
            .basis(0, 1, Run.row(-5, -3, 15))
            .after("split(0, 0, 3)")
            .basis(0, 1, Run.row(0, 1, 0), Run.row(-1, 0, 3))
            .basis(0, 2, Run.row(1, 0, 0), Run.row(0, -1, 5));
    }

    static void p13ForgottenByANewSplit() {
        edges.run(13, "SUMS of a POINT and a SIDE")
            .after("point(2)", "read(0, 1, 1, 0, 0)", "read(0, 2, 2, 0, 0)", "read(0, -1, 1, 0, 0)",
                "read(0, -2, 2, 0, 0)", "split(0, 0, 0)")
            .basis(0, 1, Run.row(-1, 1, 0))
            .basis(0, 2, Run.row(1, 1, 0))
            .after("split(0, 1, 2)")
            .basis(0, 1, Run.row(0, -1, 2))
            .basis(0, 2, Run.row(0, -1, 1))
            .after("split(0, 0, 2)")
            .basis(0, 1, Run.row(-1, 1, 0), Run.row(-1, 0, 2))
            .basis(0, 2)
            .basis(0, 0);
    }
}
