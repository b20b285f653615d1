/** Promises 14 to 23: each sentence that names an edge of the program on its own. */
public final class ProgramEdgesTest {
    private static final int UNKNOWN = RunLaws.UNKNOWN;
    private static final int OUTSIDE = RunLaws.OUTSIDE;
    private static final int STATE = RunLaws.STATE;
    private static final int FULL = RunLaws.FULL;
    private static final int NONE = RunLaws.NONE;
    private static final Edges edges = new Edges(ProgramEdgesTest.class);

    public static void main(String[] args) {
        edges.runAll(14, 23);
    }

    // ---- 14: start

    static void p14UnknownPoint() {
        edges.run(14, "UNKNOWN: POINT; OUTSIDE: a number of its VARIABLES.")
            .after("point(1)", "point(1)")
            .outside("start(#, 0, 0, 0, 0)", 0, 1, UNKNOWN)
            .due("told(2)", 0)
            .due("start(1, 0, 0, 0, 0)", 1)
            .due("told(2)", 1);
    }

    static void p14NumbersOutside() {
        edges.run(14, "OUTSIDE: a number of its VARIABLES.")
            .after("point(4)")
            .outside("start(0, #, 0, 0, 0)", -30, 30, OUTSIDE)
            .outside("start(0, 0, #, 0, 0)", -30, 30, OUTSIDE)
            .outside("start(0, 0, 0, #, 0)", -30, 30, OUTSIDE)
            .outside("start(0, 0, 0, 0, #)", -30, 30, OUTSIDE)
            .due("told(2)", 0)
            .due("start(0, -30, -30, -30, -30)", 1)
            .after("run(0, 0)")
            .due("start(0, 30, 30, 30, 30)", 1)
            .after("run(0, 0)")
            .each("reading(0, 0, #)", -30, 0, 1, 2, 3)
            .each("reading(0, 1, #)", 30, 0, 1, 2, 3);
    }

    static void p14NumbersBeyondAreNotOfItsVariables() {
        edges.run(14, "OUTSIDE: a number of its VARIABLES.")
            .after("point(1)", "point(3)")
            .due("start(0, 5, 31, MAX, MIN)", 1)
            .due("start(1, 5, 6, 7, MAX)", 1)
            .due("start(1, 5, 6, 31, 0)", OUTSIDE)
            .due("start(0, 31, 0, 0, 0)", OUTSIDE)
            .after("run(0, 0)")
            .due("reading(1, 0, 2)", 7)
            .due("tried(0, 0)", 0);
    }

    static void p14UnknownAheadOfOutside() {
        edges.run(14, "UNKNOWN: POINT; OUTSIDE: a number of its VARIABLES.")
            .after("point(1)")
            .each("start(1, #, 0, 0, 0)", UNKNOWN, -31, 31)
            .each("start(-1, #, 0, 0, 0)", UNKNOWN, -31, 31)
            .each("start(0, #, 0, 0, 0)", OUTSIDE, -31, 31);
    }

    static void p14TheLatestStartAlone() {
        edges.run(14, "START: 1.")
            .after("point(1)", "point(1)")
            .due("start(0, 4, 0, 0, 0)", 1)
            .due("start(1, 5, 0, 0, 0)", 1)
            .due("start(0, 31, 0, 0, 0)", OUTSIDE)
            .due("start(2, 0, 0, 0, 0)", UNKNOWN)
            .due("told(2)", 1)
            .after("run(0, 0)")
            .due("reading(1, 0, 0)", 5)
            .due("tried(0, 0)", 0);
    }

    // ---- 15: act

    static void p15UnknownPoints() {
        edges.run(15, "UNKNOWN: POINTS; FULL.")
            .due("act(0, 0)", UNKNOWN)
            .after("point(1)", "point(4)")
            .outside("act(#, 0)", 0, 1, UNKNOWN)
            .outside("act(0, #)", 0, 1, UNKNOWN)
            .due("told(1)", 0)
            .due("act(0, 1)", 0)
            .due("act(1, 1)", 1);
    }

    static void p15TenEver() {
        Run run = edges.run(15, "ACTS, 10 ever, numbered as they come, from a POINT to a POINT").after("point(1)");
        for (int a = 0; a < 10; a++) {
            run.due("act(0, 0)", a);
        }
        run.due("act(0, 0)", FULL)
            .due("act(0, 0)", FULL)
            .due("told(1)", 10)
            .due("made(9, 0, 0)", 0)
            .due("made(10, 0, 0)", UNKNOWN);
    }

    static void p15RefusedOnesTakeNoNumber() {
        edges.run(15, "numbered as they come")
            .after("point(1)")
            .due("act(0, 0)", 0)
            .due("act(0, 1)", UNKNOWN)
            .due("act(-1, 0)", UNKNOWN)
            .due("act(0, 0)", 1)
            .due("told(1)", 2);
    }

    static void p15UnknownAheadOfFull() {
        edges.run(15, "UNKNOWN: POINTS; FULL.")
            .after("point(1)")
            .times(10, "act(0, 0)")
            .each("act(#, 0)", UNKNOWN, -1, 1)
            .each("act(0, #)", UNKNOWN, -1, 1)
            .due("act(0, 0)", FULL);
    }

    // ---- 16: makes

    static void p16UnknownAct() {
        edges.run(16, "UNKNOWN: ACT, VARIABLE")
            .after("point(1)")
            .outside("makes(#, 0, 0, 0, 0, 0, 0)", 0, -1, UNKNOWN)
            .after("act(0, 0)", "act(0, 0)")
            .outside("makes(#, 0, 0, 0, 0, 0, 0)", 0, 1, UNKNOWN)
            .due("makes(1, 0, 0, 0, 0, 0, 0)", 1);
    }

    static void p16UnknownVariableOfTheSecondPoint() {
        edges.run(16, "VARIABLE v of an ACT's second POINT becomes that sum")
            .after("point(1)", "point(4)", "act(0, 1)", "act(1, 0)")
            .outside("makes(0, #, 1, 0, 0, 0, 0)", 0, 3, UNKNOWN)
            .outside("makes(1, #, 1, 0, 0, 0, 0)", 0, 0, UNKNOWN)
            .each("makes(0, #, 1, 0, 0, 0, 0)", 1, 0, 3)
            .due("makes(1, 0, 1, 0, 0, 0, 0)", 1);
    }

    static void p16MultiplesOutside() {
        edges.run(16, "a sum of whole multiples (-9 .. 9) of the first one's VARIABLES")
            .after("point(4)", "act(0, 0)")
            .outside("makes(0, 0, #, 0, 0, 0, 0)", -9, 9, OUTSIDE)
            .outside("makes(0, 0, 0, #, 0, 0, 0)", -9, 9, OUTSIDE)
            .outside("makes(0, 0, 0, 0, #, 0, 0)", -9, 9, OUTSIDE)
            .outside("makes(0, 0, 0, 0, 0, #, 0)", -9, 9, OUTSIDE)
            .due("makes(0, 0, 9, -9, 9, -9, 0)", 1)
            .due("makes(0, 3, -9, 9, -9, 9, 0)", 1)
            .each("made(0, 0, #)", 9, 0, 2)
            .each("made(0, 0, #)", -9, 1, 3)
            .each("made(0, 3, #)", -9, 0, 2)
            .each("made(0, 3, #)", 9, 1, 3);
    }

    static void p16WholeNumberOutside() {
        edges.run(16, "and a whole number (-99 .. 99; all 0 at first)")
            .after("point(1)", "act(0, 0)")
            .outside("makes(0, 0, 0, 0, 0, 0, #)", -99, 99, OUTSIDE)
            .due("made(0, 0, 4)", 0)
            .due("makes(0, 0, 0, 0, 0, 0, -99)", 1)
            .due("made(0, 0, 4)", -99)
            .due("makes(0, 0, 0, 0, 0, 0, 99)", 1)
            .due("made(0, 0, 4)", 99);
    }

    static void p16MultiplesBeyondAreNotLookedAt() {
        edges.run(16, "OUTSIDE (multiples beyond its VARIABLES are not looked at).")
            .after("point(1)", "point(3)", "act(0, 1)", "act(1, 0)")
            .due("makes(0, 2, 1, 10, MAX, MIN, 3)", 1)
            .each("made(0, 2, #)", 0, 1, 2, 3)
            .due("made(0, 2, 0)", 1)
            .due("made(0, 2, 4)", 3)
            .due("makes(0, 2, 1, 5, 5, 5, 3)", 1)
            .each("made(0, 2, #)", 0, 1, 2, 3)
            .due("makes(1, 0, 1, 2, 3, 10, 0)", 1)
            .due("makes(1, 0, 1, 2, 10, 0, 0)", OUTSIDE)
            .due("made(1, 0, 2)", 3)
            .due("made(1, 0, 3)", 0);
    }

    static void p16MultiplesBeyondAddNothing() {
        edges.run(16, "(multiples beyond its VARIABLES are not looked at)")
            .after("point(1)", "start(0, 2, 30, 30, 30)", "act(0, 0)", "makes(0, 0, 3, 9, 9, 9, 1)", "run(0, 1)")
            .due("reading(0, 0, 0)", 7);
    }

    static void p16UnknownAheadOfOutside() {
        edges.run(16, "UNKNOWN: ACT, VARIABLE; OUTSIDE")
            .after("point(1)", "act(0, 0)")
            .each("makes(1, 0, #, 0, 0, 0, 0)", UNKNOWN, -10, 10)
            .each("makes(0, 1, #, 0, 0, 0, 0)", UNKNOWN, -10, 10)
            .each("makes(0, 1, 0, 0, 0, 0, #)", UNKNOWN, -100, 100)
            .each("makes(0, 0, #, 0, 0, 0, 0)", OUTSIDE, -10, 10);
    }

    static void p16RefusedOnesChangeNothing() {
        Run run = edges.run(16, "They change nothing.")
            .after("point(2)", "act(0, 0)", "makes(0, 1, 1, 2, 0, 0, 3)")
            .due("makes(0, 1, 7, 10, 0, 0, 8)", OUTSIDE)
            .due("makes(0, 1, 7, 7, 0, 0, 100)", OUTSIDE)
            .due("makes(0, 2, 7, 7, 0, 0, 8)", UNKNOWN);
        int[] due = {1, 2, 0, 0, 3};
        for (int c = 0; c <= 4; c++) {
            run.due("made(0, 1, " + c + ")", due[c]).due("made(0, 0, " + c + ")", 0);
        }
    }

    static void p16MadeAnew() {
        edges.run(16, "VARIABLE v of an ACT's second POINT becomes that sum")
            .after("point(2)", "act(0, 0)", "makes(0, 0, 1, 2, 0, 0, 3)", "makes(0, 0, 0, -2, 0, 0, 0)")
            .due("made(0, 0, 0)", 0)
            .due("made(0, 0, 1)", -2)
            .due("made(0, 0, 4)", 0);
    }

    // ---- 17: made

    static void p17UnknownActAndVariable() {
        edges.run(17, "UNKNOWN: ACT, VARIABLE; OUTSIDE.")
            .after("point(1)", "point(3)", "act(0, 1)", "act(1, 0)")
            .outside("made(#, 0, 0)", 0, 1, UNKNOWN)
            .outside("made(0, #, 0)", 0, 2, UNKNOWN)
            .outside("made(1, #, 0)", 0, 0, UNKNOWN)
            .due("made(0, 2, 0)", 0)
            .due("made(1, 0, 0)", 0);
    }

    static void p17NumberOutside() {
        edges.run(17, "0 .. 3 multiples, 4 the whole number.")
            .after("point(4)", "act(0, 0)", "makes(0, 0, 1, 2, 3, 4, 5)")
            .outside("made(0, 0, #)", 0, 4, OUTSIDE)
            .due("made(0, 0, 0)", 1)
            .due("made(0, 0, 3)", 4)
            .due("made(0, 0, 4)", 5);
    }

    static void p17NumbersOfFewVariables() {
        edges.run(17, "0 .. 3 multiples, 4 the whole number.")
            .after("point(1)", "act(0, 0)", "makes(0, 0, 7, 0, 0, 0, -7)")
            .due("made(0, 0, 0)", 7)
            .each("made(0, 0, #)", 0, 1, 2, 3)
            .due("made(0, 0, 4)", -7)
            .due("made(0, 0, 5)", OUTSIDE);
    }

    static void p17UnknownAheadOfOutside() {
        edges.run(17, "UNKNOWN: ACT, VARIABLE; OUTSIDE.")
            .after("point(1)", "act(0, 0)")
            .each("made(1, 0, #)", UNKNOWN, -1, 5)
            .each("made(0, 1, #)", UNKNOWN, -1, 5)
            .each("made(0, 0, #)", OUTSIDE, -1, 5);
    }

    static void p17AllNoughtAtFirst() {
        Run run = edges.run(17, "all 0 at first").after("point(4)", "act(0, 0)", "start(0, 7, 7, 7, 7)");
        for (int v = 0; v < 4; v++) {
            run.each("made(0, " + v + ", #)", 0, 0, 1, 2, 3, 4);
        }
        run.after("run(0, 1)").each("reading(0, 0, #)", 0, 0, 1, 2, 3);
    }

    // ---- 18: kept

    static void p18NoStart() {
        edges.run(18, "STATE: no START.")
            .due("kept()", STATE)
            .after("point(1)", "read(0, 1, 0, 0, 0)", "act(0, 0)")
            .due("kept()", STATE)
            .due("start(0, 31, 0, 0, 0)", OUTSIDE)
            .due("kept()", STATE)
            .after("start(0, 2, 0, 0, 0)")
            .due("kept()", -20);
    }

    static void p18APointWithoutReadings() {
        edges.run(18, "A POINT without READINGS has no SUMS to be KEPT.")
            .after("point(1)", "start(0, 5, 0, 0, 0)")
            .due("kept()", 1)
            .after("act(0, 0)", "makes(0, 0, 9, 0, 0, 0, 99)")
            .due("kept()", 1);
    }

    static void p18EachSumOfTheStart() {
        edges.run(18, "(0 for the START), less the first SUM's that is not.")
            .after("point(4)", "read(0, 0, 0, 0, 0)", "start(0, 0, 0, 0, 0)")
            .due("kept()", 1)
            .after("start(0, 0, 0, 0, 30)")
            .due("kept()", -23)
            .after("start(0, 0, 0, -1, 1)")
            .due("kept()", -22)
            .after("start(0, 0, 1, 0, 1)")
            .due("kept()", -21)
            .after("start(0, -30, 0, 0, 0)")
            .due("kept()", -20);
    }

    static void p18EachActAndEachOfItsSums() {
        Run run = edges.run(18, "else -20 less 100 by the ACT's number and one more")
            .after("point(4)", "read(0, 0, 0, 0, 0)", "start(0, 0, 0, 0, 0)")
            .times(10, "act(0, 0)");
        run.due("kept()", 1);
        for (int a = 9; a >= 0; a--) {
            for (int v = 3; v >= 0; v--) {
                run.after("makes(" + a + ", " + v + ", 0, 0, 0, 0, 1)");
                run.due("kept()", -20 - 100 * (a + 1) - v);
            }
        }
        run.after("start(0, 0, 0, 0, 1)").due("kept()", -23);
    }

    static void p18NoRowsWithoutReadings() {
        edges.run(18, "(no rows, where there are no READINGS)")
            .after("point(1)", "point(1)", "start(0, 0, 0, 0, 0)", "read(1, 5, 0, 0, 0)", "act(0, 1)")
            .due("kept()", -120)
            .after("makes(0, 0, 1, 0, 0, 0, 0)")
            .due("kept()", -120)
            .after("makes(0, 0, 0, 0, 0, 0, 5)")
            .due("kept()", 1)
            .after("makes(0, 0, 0, 0, 0, 0, 4)")
            .due("kept()", -120);
    }

    static void p18NoRowsForOneNumberAlone() {
        edges.run(18, "(no rows, where there are no READINGS)")
            .after("point(4)", "point(1)", "start(0, 0, 0, 0, 0)", "read(1, 0, 0, 0, 0)", "act(0, 1)")
            .due("kept()", 1)
            .after("makes(0, 0, 1, 0, 0, 0, 0)")
            .due("kept()", -120)
            .after("makes(0, 0, 0, 0, 0, 1, 0)")
            .due("kept()", -120)
            .after("makes(0, 0, 0, 0, 0, 0, 1)")
            .due("kept()", -120)
            .after("makes(0, 0, 0, 0, 0, 0, 0)")
            .due("kept()", 1);
    }

    static void p18NoSumsAtTheFirstPoint() {
        edges.run(18, "is a sum of multiples (fractions, too) of the BASIS of its first POINT")
            .after("point(1)", "point(1)", "read(0, 1, 0, 0, 0)", "read(0, 2, 0, 0, 0)", "read(1, 5, 0, 0, 0)",
                "start(0, 1, 0, 0, 0)", "act(0, 1)", "makes(0, 0, 1, 0, 0, 0, 0)")
            .due("sums(0, 0)", 0)
            .due("kept()", -120)
            .after("makes(0, 0, 0, 0, 0, 0, 5)")
            .due("kept()", 1);
    }

    static void p18NoSumsAtTheSecondPoint() {
        edges.run(18, "for each ACT each SUM of the BASIS of its second POINT")
            .after("point(1)", "point(1)", "read(0, 1, 0, 0, 0)", "read(1, 5, 0, 0, 0)", "read(1, 6, 0, 0, 0)",
                "start(0, 1, 0, 0, 0)", "act(0, 1)", "makes(0, 0, 9, 0, 0, 0, 99)")
            .due("kept()", 1);
    }

    static void p18FractionsOfRows() {
        edges.run(18, "is a sum of multiples (fractions, too)")
            .after("point(2)", "point(1)", "read(0, 2, 3, 0, 0)", "read(1, 0, 0, 0, 0)", "start(0, 2, 3, 0, 0)",
                "act(0, 1)")
            // The basis -3 x0 + 2 x1, -x0 + 2; half of both is -2 x0 + x1 + 1.
            .after("makes(0, 0, -2, 1, 0, 0, 1)")
            .due("kept()", 1)
            .after("makes(0, 0, -2, 1, 0, 0, 2)")
            .due("kept()", -120);
    }

    static void p18SideNoughtAlone() {
        edges.run(18, "SUMS of all POINTS (SIDE 0) are KEPT")
            .after("point(1)", "read(0, 1, 0, 0, 0)", "read(0, 2, 0, 0, 0)", "start(0, 7, 0, 0, 0)", "split(0, 0, 2)")
            .due("sums(0, 1)", 1)
            .due("kept()", 1);
    }

    static void p18LargestNumbers() {
        edges.run(18, "its VARIABLES put in as the ACT makes them")
            .after("point(4)", "read(0, 30, -30, -30, -29)", "read(0, 30, -30, 30, 30)", "read(0, -30, -29, -30, 30)",
                "read(0, 30, 30, -29, 30)", "start(0, 30, 30, -29, 30)", "act(0, 0)")
            // All become 0: 12641370 is left.
            .due("kept()", -120)
            .after("makes(0, 0, 1, 0, 0, 0, 0)", "makes(0, 1, 0, 1, 0, 0, 0)", "makes(0, 2, 0, 0, 1, 0, 0)",
                "makes(0, 3, 0, 0, 0, 1, 0)")
            .due("kept()", 1)
            .after("makes(0, 0, 9, 9, 9, 9, 99)", "makes(0, 1, 9, 9, 9, 9, -99)", "makes(0, 2, 9, -9, 9, -9, -99)",
                "makes(0, 3, -9, -9, -9, -9, 99)")
            .due("kept()", -120)
            .after("start(0, 30, 30, -30, 30)")
            .due("kept()", -20);
    }

    static void p18WhatLeadsToTheLostIsKeptAllTheSame() {
        edges.run(18, "SUMS of all POINTS (SIDE 0) are KEPT")
            .after("point(2)", "read(0, 30, 30, 0, 0)", "read(0, 0, 0, 0, 0)", "start(0, 30, 30, 0, 0)", "act(0, 0)",
                "makes(0, 0, 1, 0, 0, 0, 9)", "makes(0, 1, 0, 1, 0, 0, 9)")
            .due("run(0, 1)", NONE)
            .due("kept()", 1);
    }

    // ---- 19: search

    static void p19DepthOutside() {
        edges.run(19, "OUTSIDE: n is not 0 .. 5")
            .after("point(1)", "start(0, 1, 0, 0, 0)", "read(0, 2, 0, 0, 0)")
            .outside("search(#)", 0, 5, OUTSIDE)
            .due("broke(0)", NONE)
            .each("search(#)", 1, 0, 5);
    }

    static void p19NoStart() {
        edges.run(19, "STATE: no START")
            .each("search(#)", STATE, 0, 5)
            .after("point(1)", "read(0, 2, 0, 0, 0)", "act(0, 0)")
            .each("search(#)", STATE, 0, 5)
            .due("broke(0)", NONE);
    }

    static void p19OutsideAheadOfState() {
        edges.run(19, "OUTSIDE: n is not 0 .. 5; STATE: no START").outside("search(#)", 0, 5, OUTSIDE);
    }

    static void p19NoneBreaksAny() {
        edges.run(19, "NONE: none BREAKS any.")
            .after("point(1)", "start(0, 1, 0, 0, 0)")
            .each("search(#)", NONE, 0, 5)
            .after("read(0, 1, 0, 0, 0)")
            .each("search(#)", NONE, 0, 5)
            .after("act(0, 0)", "makes(0, 0, 1, 0, 0, 0, 0)")
            .each("search(#)", NONE, 0, 5)
            .due("broke(0)", NONE);
    }

    static void p19TheRowOfNoActs() {
        edges.run(19, "rows of ACTS of length 0, then 1, .. up to n")
            .after("point(1)", "start(0, 1, 0, 0, 0)", "read(0, 2, 0, 0, 0)")
            .due("search(0)", 1)
            .due("broke(2)", 0)
            .due("broke(3)", 1)
            .due("broke(10)", NONE);
    }

    static void p19UpToTheDepthAndNoFurther() {
        Run run = edges.run(19, "rows of ACTS of length 0, then 1, .. up to n")
            .after("point(1)", "act(0, 0)", "makes(0, 0, 1, 0, 0, 0, 1)", "start(0, 0, 0, 0, 0)");
        for (int x = 0; x < 5; x++) {
            run.after("read(0, " + x + ", 0, 0, 0)");
            run.due("search(" + x + ")", NONE);
            run.due("search(" + (x + 1) + ")", x + 2);
            run.due("broke(2)", x + 1);
        }
        run.due("search(5)", 6).after("read(0, 5, 0, 0, 0)").due("search(5)", NONE);
    }

    static void p19InOrderAsNumbers() {
        edges.run(19, "of one length in order as numbers (the first ACT the highest digit)")
            .after("point(1)", "act(0, 0)", "act(0, 0)", "act(0, 0)", "start(0, 0, 0, 0, 0)")
            .after("makes(0, 0, 2, 0, 0, 0, 0)", "makes(1, 0, 1, 0, 0, 0, 1)", "makes(2, 0, 1, 0, 0, 0, 0)")
            .after("read(0, 0, 0, 0, 0)", "read(0, 1, 0, 0, 0)")
            // 1; 3; then 00 01 02, 10 leads to 2
            .due("search(2)", 8)
            .due("broke(1)", 100)
            .due("broke(10)", 1)
            .due("broke(11)", 0)
            .due("broke(3)", 2);
    }

    static void p19TheEndsAreNotLost() {
        edges.run(19, "one with a number (of its POINT's VARIABLES) beyond -30 .. 30 is LOST")
            .after("point(1)", "point(1)", "act(0, 1)", "read(1, 0, 0, 0, 0)", "start(0, 0, 0, 0, 0)")
            .after("makes(0, 0, 0, 0, 0, 0, 30)")
            .due("search(1)", 2)
            .due("broke(3)", 30)
            .after("makes(0, 0, 0, 0, 0, 0, -30)")
            .due("search(1)", 2)
            .due("broke(3)", -30)
            .after("makes(0, 0, 0, 0, 0, 0, 31)")
            .due("search(1)", NONE)
            .after("makes(0, 0, 0, 0, 0, 0, -31)")
            .due("search(1)", NONE)
            .due("broke(3)", -30);
    }

    static void p19OneNumberLostIsAllLost() {
        edges.run(19, "one with a number (of its POINT's VARIABLES) beyond -30 .. 30 is LOST")
            .after("point(1)", "point(4)", "act(0, 1)", "read(1, 0, 0, 0, 0)", "start(0, 30, 0, 0, 0)",
                "makes(0, 0, 0, 0, 0, 0, 1)")
            .due("search(1)", 2)
            .after("makes(0, 3, 9, 0, 0, 0, 99)")
            .due("search(1)", NONE)
            .after("makes(0, 3, 0, 0, 0, 0, 0)", "makes(0, 1, -9, 0, 0, 0, -99)")
            .due("search(1)", NONE);
    }

    static void p19RowsToTheLostCount() {
        edges.run(19, "(rows that lead to what is LOST, too;")
            .after("point(1)", "point(1)", "start(0, 29, 0, 0, 0)", "act(0, 0)", "makes(0, 0, 1, 0, 0, 0, 1)",
                "act(0, 1)", "makes(1, 0, 1, 0, 0, 0, 0)", "read(1, 29, 0, 0, 0)")
            // 1; 0 1; then 00 (lost) 01
            .due("search(2)", 5)
            .due("broke(0)", 1)
            .due("broke(3)", 30);
    }

    static void p19NothingLeadsOnFromTheLost() {
        edges.run(19, "is LOST: nothing leads on from it.")
            .after("point(1)", "point(1)", "point(1)", "start(0, 29, 0, 0, 0)", "act(0, 0)",
                "makes(0, 0, 1, 0, 0, 0, 1)", "act(0, 1)", "makes(1, 0, 1, 0, 0, 0, 0)", "act(1, 2)",
                "makes(2, 0, 1, 0, 0, 0, 0)", "read(2, 29, 0, 0, 0)")
            // 1; 0 1; 00 (lost) 01 12; then 012
            .due("search(3)", 7)
            .due("broke(0)", 2)
            .due("broke(2)", 3);
    }

    static void p19ActsThatBeginElsewhere() {
        edges.run(19, "those in which an ACT does not begin where the one ahead led to are none)")
            .after("point(1)", "point(1)", "act(1, 0)", "act(1, 1)", "act(0, 1)", "start(0, 0, 0, 0, 0)",
                "read(1, 0, 0, 0, 0)", "makes(1, 0, 1, 0, 0, 0, 1)")
            // 1; 2; then 20 21
            .due("search(2)", 4)
            .due("broke(10)", 2)
            .due("broke(11)", 1)
            .after("start(1, 0, 0, 0, 0)")
            // 1; then 0 1
            .due("search(2)", 3);
    }

    static void p19AllRowsOfTenActs() {
        Run run = edges.run(19, "how many rows were gone through, with that one").after("point(1)");
        for (int a = 0; a < 10; a++) {
            run.after("act(0, 0)", "makes(" + a + ", 0, 1, 0, 0, 0, " + (a == 9 ? 1 : 0) + ")");
        }
        run.after("start(0, 0, 0, 0, 0)");
        for (int x = 0; x < 5; x++) {
            run.after("read(0, " + x + ", 0, 0, 0)");
        }
        run.due("search(4)", NONE).due("search(5)", 111111);
        run.each("broke(#)", 9, 10, 11, 12, 13, 14);
    }

    /** Ten acts that lead to ever other states: what is remembered of states must not tell a wrong count. */
    static void p19AllRowsOfUnlikeStates() {
        Run run = edges.run(19, "how many rows were gone through, with that one").after("point(4)");
        for (int a = 0; a < 10; a++) {
            run.after("act(0, 0)");
            for (int v = 0; v < 4; v++) {
                int add = v == a % 4 ? a / 4 + 1 : 0;
                run.after("makes(" + a + ", " + v + ", " + (v == 0 ? 1 : 0) + ", " + (v == 1 ? 1 : 0) + ", "
                    + (v == 2 ? 1 : 0) + ", " + (v == 3 ? 1 : 0) + ", " + add + ")");
            }
        }
        run.after("start(0, 0, 0, 0, 0)");
        // The greatest sums of one variable: 5 times 3 by act 8, or 9; so 15 of x1 is met by the last row alone.
        for (int x = 0; x < 15; x++) {
            run.after("read(0, " + x + ", " + x + ", " + Math.min(x, 10) + ", " + Math.min(x, 10) + ")");
            run.after("read(0, " + (15 - x) + ", " + (14 - x) + ", " + Math.min(x, 10) + ", " + Math.min(14 - x, 10) + ")");
        }
        run.after("read(0, 0, 1, 2, 3)", "read(0, 3, 2, 1, 0)");
        run.due("search(4)", NONE).due("search(5)", 111111).due("broke(1)", 310).due("broke(4)", 15);
    }

    /** Two states a little apart, of which the second alone leads to what breaks a guess. */
    static void p19StatesThatAreNearlyTheSame() {
        for (int v = 0; v < 4; v++) {
            for (int less = 0; less <= 60; less++) {
                int[] first = {30, 30, 30, 30};
                first[v] = -30;
                int[] second = first.clone();
                second[v] = -29;
                second[(v + 1) % 4] = 30 - less;
                nearly(v, first, second);
            }
        }
    }

    private static void nearly(int v, int[] first, int[] second) {
        Run run = edges.run(19, "how many rows were gone through, with that one")
            .after("point(1)", "point(4)", "point(1)", "start(0, 0, 0, 0, 0)", "read(2, 0, 0, 0, 0)", "act(0, 1)",
                "act(0, 1)", "act(1, 2)");
        for (int w = 0; w < 4; w++) {
            run.after("makes(0, " + w + ", 0, 0, 0, 0, " + first[w] + ")");
            run.after("makes(1, " + w + ", 0, 0, 0, 0, " + second[w] + ")");
        }
        run.after("makes(2, 0, " + (v == 0 ? 1 : 0) + ", " + (v == 1 ? 1 : 0) + ", " + (v == 2 ? 1 : 0) + ", "
            + (v == 3 ? 1 : 0) + ", 30)");
        // 1; 0 1; then 02 12
        run.due("search(5)", 5).due("broke(10)", 1).due("broke(3)", 1);
    }

    static void p19TheSameNumbersAtOtherPoints() {
        Run run = edges.run(19, "how many rows were gone through, with that one").times(4, "point(1)");
        int[][] ways = {{0, 0}, {0, 1}, {1, 1}, {1, 2}, {2, 3}};
        for (int a = 0; a < ways.length; a++) {
            run.after("act(" + ways[a][0] + ", " + ways[a][1] + ")", "makes(" + a + ", 0, 1, 0, 0, 0, 0)");
        }
        // 1; 0 1; 00 01 12 13; then 000 001 012 013 122 123 134
        run.after("start(0, 0, 0, 0, 0)", "read(3, 5, 0, 0, 0)").due("search(5)", 14).due("broke(0)", 3);
    }

    /** Each state that a point of two variables may have is searched from twice: nothing of the first is left. */
    static void p19EachSearchAnew() {
        Run run = null;
        for (int n = 0; n < 61 * 61; n++) {
            if (run == null || run.calls() > Run.MOST_CALLS - 10) {
                run = edges.run(19, "A SEARCH: how many rows were gone through, with that one")
                    .after("point(2)", "point(1)", "act(0, 0)", "act(0, 1)", "read(1, 0, 0, 0, 0)",
                        "makes(0, 0, 1, 0, 0, 0, 0)", "makes(0, 1, 0, 1, 0, 0, 0)");
            }
            run.after("start(0, " + (n / 61 - 30) + ", " + (n % 61 - 30) + ", 0, 0)")
                .due("search(1)", NONE)
                .after("makes(1, 0, 0, 0, 0, 0, 1)")
                .due("search(1)", 3)
                .after("makes(1, 0, 0, 0, 0, 0, 0)");
        }
    }

    static void p19OnlyToldGuessesOfThePointItself() {
        edges.run(19, "BREAKS a TOLD GUESS of SIDE 0 of its POINT")
            .after("point(1)", "point(1)", "start(0, 9, 0, 0, 0)", "read(1, 1, 0, 0, 0)")
            .due("search(5)", NONE)
            .after("act(0, 1)", "makes(0, 0, 0, 0, 0, 0, 1)")
            .due("search(5)", NONE)
            .after("makes(0, 0, 0, 0, 0, 0, 2)")
            .due("search(5)", 2);
    }

    static void p19SideNoughtAlone() {
        edges.run(19, "BREAKS a TOLD GUESS of SIDE 0 of its POINT")
            .after("point(1)", "read(0, -9, 0, 0, 0)", "read(0, -2, 0, 0, 0)", "read(0, 3, 0, 0, 0)",
                "read(0, 8, 0, 0, 0)", "split(0, 0, 0)", "start(0, 1, 0, 0, 0)")
            // 1 is below all of side 1, and above all of side 2.
            .due("search(0)", NONE)
            .after("start(0, -10, 0, 0, 0)")
            .due("search(0)", 1)
            .due("broke(1)", 200);
    }

    /** The START alone against readings: the code that it breaks, or NONE. */
    private static void breaks(String sentence, int[][] readings, int a, int b, int code) {
        Run run = edges.run(19, sentence).after("point(2)");
        for (int[] r : readings) {
            run.after("read(0, " + r[0] + ", " + r[1] + ", 0, 0)");
        }
        run.after("start(0, " + a + ", " + b + ", 0, 0)");
        run.due("search(0)", code == NONE ? NONE : 1).due("broke(1)", code);
    }

    static void p19ConstantAndFewBreakByAnotherNumber() {
        String sentence = "(CONSTANT, FEW: another number;";
        int[][] one = {{4, 0}, {4, 1}, {4, 0}, {4, 3}, {4, 9}};
        breaks(sentence, one, 4, 2, NONE);
        breaks(sentence, one, 3, 2, 0);
        breaks(sentence, one, 5, 2, 0);
        int[][] three = {{-30, 0}, {0, 1}, {30, 0}, {0, 3}, {0, 9}};
        for (int x : new int[] {-30, 0, 30}) {
            breaks(sentence, three, x, 2, NONE);
        }
        for (int x : new int[] {-29, -1, 1, 29}) {
            breaks(sentence, three, x, 2, 100);
        }
    }

    static void p19LeastAndGreatestBreakBeyond() {
        String sentence = "LEAST, GREATEST: beyond c;";
        int[][] some = {{-5, 0}, {0, 1}, {5, 7}, {2, 3}, {1, 9}, {-2, -9}};
        breaks(sentence, some, -5, 0, NONE);
        breaks(sentence, some, -6, 0, 200);
        breaks(sentence, some, 5, 9, NONE);
        breaks(sentence, some, 6, 9, 300);
        breaks(sentence, some, 0, -10, 210);
        breaks(sentence, some, 0, 10, 310);
    }

    static void p19RestBreaksByAnotherRest() {
        String sentence = "REST; ALIKE to UNLIKE as told; RISES none)";
        int[][] some = {{-29, 5}, {-5, -7}, {7, 0}, {19, 3}, {-17, 1}};
        breaks(sentence, some, -17, 2, NONE);
        breaks(sentence, some, 19, 2, NONE);
        breaks(sentence, some, 18, 2, 400);
        breaks(sentence, some, -28, 2, 400);
        breaks(sentence, some, 13, 2, 400);
    }

    static void p19PairsBreakWhereTheyMeet() {
        String sentence = "ALIKE to UNLIKE as told;";
        int[][] alike = {{-9, -9}, {0, 0}, {5, 5}, {9, 9}};
        breaks(sentence, alike, 3, 3, NONE);
        breaks(sentence, alike, 3, 4, 501);
        breaks(sentence, alike, 4, 3, 501);
        int[][] below = {{-9, -8}, {0, 5}, {5, 9}, {8, 10}};
        breaks(sentence, below, 4, 5, NONE);
        breaks(sentence, below, 5, 5, 601);
        breaks(sentence, below, 6, 5, 601);
        int[][] notAbove = {{-9, -8}, {0, 5}, {5, 5}, {8, 10}, {1, 7}};
        breaks(sentence, notAbove, 4, 4, NONE);
        breaks(sentence, notAbove, 5, 4, 701);
        int[][] unlike = {{-9, -8}, {7, 5}, {0, 9}, {8, 10}};
        breaks(sentence, unlike, 4, 5, NONE);
        breaks(sentence, unlike, 5, 4, NONE);
        breaks(sentence, unlike, 4, 4, 801);
    }

    static void p19PairsTheOtherWay() {
        String sentence = "ALIKE to UNLIKE as told;";
        int[][] above = {{-8, -9}, {5, 0}, {9, 5}, {10, 8}};
        breaks(sentence, above, 5, 4, NONE);
        breaks(sentence, above, 5, 5, 610);
        int[][] notBelow = {{-8, -9}, {5, 0}, {5, 5}, {10, 8}, {7, 1}};
        breaks(sentence, notBelow, 4, 4, NONE);
        breaks(sentence, notBelow, 4, 5, 710);
    }

    static void p19RisesBreaksNone() {
        breaks("RISES none)", new int[][] {{1, 3}, {2, 9}, {4, 2}, {5, 5}, {9, 3}}, 1, 4, NONE);
    }

    static void p19TheFirstGuessInTheirOrder() {
        breaks("the first such GUESS, in their order.", new int[][] {{1, 2}, {3, 2}, {3, 2}}, 9, 9, 10);
        breaks("the first such GUESS, in their order.", new int[][] {{1, 2}, {3, 4}, {5, 6}, {7, 8}}, 30, -30, 210);
        breaks("the first such GUESS, in their order.", new int[][] {{1, 2}, {3, 4}, {5, 6}, {7, 8}}, 30, 30, 300);
        breaks("the first such GUESS, in their order.", new int[][] {{1, 2}, {3, 4}, {5, 6}, {7, 8}}, 6, 3, 400);
    }

    static void p19WhatTheProgramIsNow() {
        edges.run(19, "A SEARCH: how many rows were gone through, with that one")
            .after("point(1)", "start(0, 0, 0, 0, 0)", "read(0, 0, 0, 0, 0)", "act(0, 0)",
                "makes(0, 0, 1, 0, 0, 0, 1)")
            .due("search(5)", 2)
            .after("makes(0, 0, 1, 0, 0, 0, 0)")
            .due("search(5)", NONE)
            .after("act(0, 0)", "makes(1, 0, 1, 0, 0, 0, 2)")
            .due("search(5)", 3)
            .after("read(0, 2, 0, 0, 0)")
            // 1; 0 1; 00 01 10 11
            .due("search(5)", 7)
            .after("start(0, 1, 0, 0, 0)")
            .due("search(5)", 1);
    }

    // ---- 20: broke

    static void p20NoneYet() {
        edges.run(20, "NONE: there was none (yet), no such number.")
            .each("broke(#)", NONE, -1, 0, 1, 2, 3, 6, 7, 10, 14, 15)
            .after("point(1)", "start(0, 0, 0, 0, 0)", "read(0, 0, 0, 0, 0)")
            .due("search(5)", NONE)
            .each("broke(#)", NONE, -1, 0, 1, 2, 3, 6, 7, 10, 14, 15);
    }

    static void p20NoSuchNumber() {
        edges.run(20, "no such number.")
            .after("point(4)", "start(0, 1, 2, 3, 4)", "read(0, 0, 0, 0, 0)", "search(0)")
            .due("broke(0)", 0)
            .due("broke(1)", 0)
            .due("broke(2)", 0)
            .due("broke(3)", 1)
            .due("broke(6)", 4)
            .each("broke(#)", NONE, 7, 8, 9, 10, 11, 14, 15)
            .outside("broke(#)", 0, 14, NONE);
    }

    static void p20NumbersOfFewVariables() {
        for (int k = 1; k <= 4; k++) {
            Run run = edges.run(20, "3 .. 6 the STATE's numbers")
                .after("point(" + k + ")", "start(0, 11, 12, 13, 14)", "read(0, 0, 0, 0, 0)", "search(0)");
            for (int v = 0; v < 4; v++) {
                run.due("broke(" + (3 + v) + ")", v < k ? 11 + v : NONE);
            }
        }
    }

    static void p20ActsOfEachLength() {
        Run run = edges.run(20, "10 and i: the i-th ACT.")
            .after("point(1)", "act(0, 0)", "makes(0, 0, 1, 0, 0, 0, 1)", "start(0, 0, 0, 0, 0)");
        for (int length = 1; length <= 5; length++) {
            run.after("read(0, " + (length - 1) + ", 0, 0, 0)", "search(5)");
            run.due("broke(2)", length);
            for (int i = 0; i < 7; i++) {
                run.due("broke(" + (10 + i) + ")", i < length ? 0 : NONE);
            }
        }
    }

    static void p20AShorterRowHidesTheLongerOne() {
        edges.run(20, "Of the latest SEARCH that found one")
            .after("point(2)", "point(1)", "act(0, 1)", "makes(0, 0, 1, 1, 0, 0, 0)", "start(0, 3, 4, 0, 0)",
                "read(1, 6, 0, 0, 0)", "search(1)")
            .due("broke(0)", 1)
            .due("broke(3)", 7)
            .due("broke(4)", NONE)
            .due("broke(10)", 0)
            .after("read(0, 3, 3, 0, 0)", "search(1)")
            .due("broke(0)", 0)
            .due("broke(1)", 10)
            .due("broke(3)", 3)
            .due("broke(4)", 4)
            .due("broke(10)", NONE);
    }

    static void p20ASearchThatFindsNoneLeavesIt() {
        edges.run(20, "Of the latest SEARCH that found one")
            .after("point(1)", "start(0, 7, 0, 0, 0)", "read(0, 6, 0, 0, 0)", "search(0)", "read(0, 7, 0, 0, 0)")
            .due("search(5)", NONE)
            .due("search(6)", OUTSIDE)
            .due("search(-1)", OUTSIDE)
            .due("broke(0)", 0)
            .due("broke(1)", 0)
            .due("broke(2)", 0)
            .due("broke(3)", 7)
            .after("start(0, 8, 0, 0, 0)")
            .due("broke(3)", 7)
            .after("search(0)")
            .due("broke(3)", 8)
            .due("broke(1)", 100);
    }

    static void p20NoneMayBeANumber() {
        edges.run(20, "3 .. 6 the STATE's numbers")
            .after("point(1)", "start(0, -9, 0, 0, 0)", "read(0, 6, 0, 0, 0)", "search(0)")
            .due("broke(3)", -9)
            .due("broke(4)", NONE);
    }

    // ---- 21: run

    static void p21LengthOutside() {
        edges.run(21, "OUTSIDE: m is not 0 .. 9, n is below 0")
            .after("point(1)", "act(0, 0)", "start(0, 0, 0, 0, 0)")
            .outside("run(0, #)", 0, 9, OUTSIDE)
            .each("run(#, 0)", OUTSIDE, -1, -10, Integer.MIN_VALUE, Integer.MIN_VALUE + 1)
            .each("run(#, 1)", OUTSIDE, -1, -10, Integer.MIN_VALUE, Integer.MIN_VALUE + 1)
            .due("tried(0, 0)", 0)
            .due("run(0, 0)", 0)
            .due("run(0, 9)", 0)
            .due("tried(0, 0)", 2);
    }

    static void p21NoStart() {
        edges.run(21, "STATE: no START")
            .each("run(#, 0)", STATE, 0, 5, Integer.MAX_VALUE)
            .after("point(1)", "act(0, 0)")
            .due("run(0, 0)", STATE)
            .due("run(0, 9)", STATE)
            .due("run(1, 1)", STATE)
            .due("tried(0, 0)", 0);
    }

    static void p21OutsideAheadOfState() {
        edges.run(21, "OUTSIDE: m is not 0 .. 9, n is below 0; STATE: no START")
            .outside("run(0, #)", 0, 9, OUTSIDE)
            .due("run(-1, 0)", OUTSIDE)
            .due("run(-1, 10)", OUTSIDE);
    }

    static void p21NoSuchAct() {
        edges.run(21, "of the ACTS, one by one: UNKNOWN: there is no such one, it begins at another POINT")
            .after("point(1)", "start(0, 0, 0, 0, 0)")
            .each("run(#, 1)", UNKNOWN, 0, 9)
            .after("act(0, 0)", "act(0, 0)")
            .each("run(#, 1)", UNKNOWN, 2, 9, Integer.MAX_VALUE)
            .each("run(#, 2)", UNKNOWN, 2, 20, 21, 90)
            .due("tried(0, 0)", 0)
            .due("run(2, 0)", 0)
            .due("run(1, 1)", 0)
            .due("run(20, 1)", 0)
            .due("tried(0, 0)", 3);
    }

    static void p21BeginsAtAnotherPoint() {
        edges.run(21, "it begins at another POINT")
            .after("point(1)", "point(1)", "act(0, 1)", "act(1, 0)", "start(0, 0, 0, 0, 0)")
            .due("run(1, 1)", UNKNOWN)
            .due("run(0, 2)", UNKNOWN)
            .due("run(110, 3)", UNKNOWN)
            .each("tried(#, 0)", 0, 0, 1)
            .due("run(10, 2)", 0)
            .due("run(10, 3)", 0)
            .due("tried(0, 0)", 1)
            .due("tried(1, 0)", 1);
    }

    static void p21LostAtTheEnds() {
        edges.run(21, "NONE: what it leads to is LOST")
            .after("point(1)", "act(0, 0)", "start(0, 10, 0, 0, 0)", "makes(0, 0, 1, 0, 0, 0, 21)")
            .due("run(0, 1)", NONE)
            .after("makes(0, 0, 1, 0, 0, 0, -41)")
            .due("run(0, 1)", NONE)
            .due("tried(0, 0)", 0)
            .after("makes(0, 0, 1, 0, 0, 0, 20)", "run(0, 1)", "makes(0, 0, 1, 0, 0, 0, -40)", "run(0, 1)")
            .due("reading(0, 0, 0)", 30)
            .due("reading(0, 1, 0)", -30);
    }

    static void p21LostOnTheWay() {
        edges.run(21, "NONE: what it leads to is LOST")
            .after("point(1)", "act(0, 0)", "act(0, 0)", "start(0, 20, 0, 0, 0)", "makes(0, 0, 1, 0, 0, 0, 20)",
                "makes(1, 0, 1, 0, 0, 0, -20)")
            .due("run(10, 2)", NONE)
            .due("tried(0, 0)", 0)
            .due("run(1, 2)", 0)
            .due("reading(0, 0, 0)", 20);
    }

    static void p21FarthestNumbers() {
        edges.run(21, "NONE: what it leads to is LOST")
            .after("point(4)", "act(0, 0)", "start(0, 30, 30, 30, 30)", "makes(0, 3, 9, 9, 9, 9, 99)")
            .due("run(0, 1)", NONE)
            .after("makes(0, 3, -9, -9, -9, -9, -99)")
            .due("run(0, 1)", NONE)
            .after("makes(0, 3, 9, -9, 9, -9, 30)")
            .due("run(0, 1)", 0)
            .due("reading(0, 0, 3)", 30);
    }

    static void p21ActsOneByOne() {
        edges.run(21, "of the ACTS, one by one")
            .after("point(1)", "act(0, 0)", "act(0, 0)", "start(0, 0, 0, 0, 0)", "makes(1, 0, 0, 0, 0, 0, 31)")
            .due("run(1, 1)", NONE)
            .due("run(21, 2)", NONE)
            .due("run(12, 2)", UNKNOWN)
            .due("run(10, 2)", NONE)
            .due("run(210, 3)", NONE)
            .due("run(120, 3)", UNKNOWN)
            .due("tried(0, 0)", 0);
    }

    static void p21TheLowestDigitFirst() {
        edges.run(21, "ACTS as digits of n to the base 10 (the lowest first), m of them")
            .after("point(1)", "act(0, 0)", "act(0, 0)", "start(0, 3, 0, 0, 0)", "makes(0, 0, 2, 0, 0, 0, 0)",
                "makes(1, 0, 1, 0, 0, 0, 1)", "run(1, 2)", "run(10, 2)")
            .due("reading(0, 0, 0)", 8)
            .due("reading(0, 1, 0)", 7);
    }

    /** Act a makes x into a - x. */
    private static Run turning(String sentence) {
        Run run = edges.run(21, sentence).after("point(1)", "start(0, 5, 0, 0, 0)");
        for (int a = 0; a < 10; a++) {
            run.after("act(0, 0)", "makes(" + a + ", 0, -1, 0, 0, 0, " + a + ")");
        }
        return run;
    }

    static void p21NineDigitsOfTheGreatestNumber() {
        turning("m of them")
            // 2147483647: 7 4 6 3 8 4 7 4 1, and the 2 is not looked at.
            .after("start(0, 0, 0, 0, 0)", "run(MAX, 9)")
            .due("reading(0, 0, 0)", 14)
            .after("run(MAX, 8)")
            .due("reading(0, 1, 0)", -13)
            // 9 8 7 6 5 4 3 2 1
            .after("run(123456789, 9)")
            .due("reading(0, 2, 0)", 5);
    }

    static void p21NoughtAheadOfTheDigits() {
        turning("m of them")
            .after("run(0, 9)", "run(0, 8)", "run(3, 9)")
            .due("reading(0, 0, 0)", -5)
            .due("reading(0, 1, 0)", 5)
            .due("reading(0, 2, 0)", -2);
    }

    static void p21NoActsReadTheStart() {
        turning("The STATE that a row of ACTS leads to from the START is read as a READING of its POINT, too")
            .due("run(0, 0)", 0)
            .due("run(MAX, 0)", 0)
            .each("reading(0, #, 0)", 5, 0, 1)
            .due("tried(0, 0)", 2);
    }

    static void p21WhatReadTells() {
        turning("what read() tells.")
            .after("split(0, 0, 0)", "run(0, 0)")
            .dead()
            .due("run(9, 1)", 6)
            .dead(0, 400, 900, 1000, 1400, 1900);
    }

    static void p21Full() {
        edges.run(21, "FULL.")
            .after("point(1)", "point(1)", "act(0, 0)", "makes(0, 0, 1, 0, 0, 0, 0)", "act(0, 1)", "start(0, 0, 0, 0, 0)")
            .times(20, "read(0, 0, 0, 0, 0)")
            .times(19, "run(0, 3)")
            .due("run(0, 0)", 0)
            .due("run(0, 0)", FULL)
            .due("run(0, 9)", FULL)
            .due("read(0, 0, 0, 0, 0)", FULL)
            .due("tried(0, 0)", 40)
            .due("run(1, 1)", 0)
            .due("tried(1, 0)", 1);
    }

    static void p21FullBehindAllOthers() {
        edges.run(21, "NONE: what it leads to is LOST; FULL.")
            .after("point(1)", "act(0, 0)", "makes(0, 0, 1, 0, 0, 0, 31)", "start(0, 0, 0, 0, 0)")
            .times(40, "read(0, 0, 0, 0, 0)")
            .due("run(0, 10)", OUTSIDE)
            .due("run(1, 1)", UNKNOWN)
            .due("run(0, 1)", NONE)
            .due("run(0, 0)", FULL);
    }

    static void p21RefusedOnesLeaveTheDead() {
        edges.run(21, "They change nothing.")
            .after("point(1)", "act(0, 0)", "makes(0, 0, 1, 0, 0, 0, 31)", "start(0, 4, 0, 0, 0)",
                "read(0, 5, 0, 0, 0)", "run(0, 0)")
            .dead(0, 400, 900)
            .due("run(0, 10)", OUTSIDE)
            .due("run(1, 1)", UNKNOWN)
            .due("run(0, 1)", NONE)
            .dead(0, 400, 900)
            .due("tried(0, 0)", 2);
    }

    // ---- 22: told

    static void p22Outside() {
        edges.run(22, "3 GUESSES that died by the latest read(). OUTSIDE.")
            .outside("told(#)", 0, 3, OUTSIDE)
            .each("told(#)", 0, 0, 1, 2, 3);
    }

    static void p22FromNoneToFull() {
        Run run = edges.run(22, "How many: 0 POINTS, 1 ACTS, 2 whether there is a START (1, 0)");
        for (int p = 1; p <= 6; p++) {
            run.after("point(1)").due("told(0)", p);
        }
        for (int a = 1; a <= 10; a++) {
            run.after("act(5, 0)").due("told(1)", a);
        }
        run.due("point(1)", FULL).due("act(0, 0)", FULL).due("told(0)", 6).due("told(1)", 10);
        run.due("told(2)", 0).after("start(0, 0, 0, 0, 0)", "start(1, 0, 0, 0, 0)").due("told(2)", 1);
    }

    static void p22DiedByTheLatest() {
        edges.run(22, "3 GUESSES that died by the latest read().")
            .after("point(1)", "read(0, 0, 0, 0, 0)", "read(0, 1, 0, 0, 0)")
            .due("told(3)", 2)
            .due("read(0, 31, 0, 0, 0)", OUTSIDE)
            .due("told(3)", 2)
            .after("read(0, 1, 0, 0, 0)")
            .due("told(3)", 0);
    }

    // ---- 23: variables

    static void p23Unknown() {
        edges.run(23, "How many VARIABLES a POINT has. UNKNOWN.")
            .outside("variables(#)", 0, -1, UNKNOWN)
            .after("point(4)", "point(1)", "point(3)", "point(2)", "point(4)", "point(1)")
            .outside("variables(#)", 0, 5, UNKNOWN)
            .due("variables(0)", 4).due("variables(1)", 1).due("variables(2)", 3)
            .due("variables(3)", 2).due("variables(4)", 4).due("variables(5)", 1);
    }
}
