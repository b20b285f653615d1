/** Promises 1 to 7: each sentence that names an edge (too small, too large, empty, full, refused) on its own. */
public final class PointsEdgesTest {
    private static final int UNKNOWN = RunLaws.UNKNOWN;
    private static final int OUTSIDE = RunLaws.OUTSIDE;
    private static final int STATE = RunLaws.STATE;
    private static final int FULL = RunLaws.FULL;
    private static final int NONE = RunLaws.NONE;
    private static final int LOST = -1000;
    private static final Edges edges = new Edges(PointsEdgesTest.class);

    public static void main(String[] args) {
        edges.runAll(1, 7);
    }

    // ---- 1: a new object

    static void p01NewObjectHasNoPoints() {
        edges.run(1, "No POINTS")
            .due("told(0)", 0)
            .each("variables(#)", UNKNOWN, 0, 1, 5)
            .each("tried(#, 0)", UNKNOWN, 0, 1, 5)
            .due("split(0, 0, 0)", UNKNOWN)
            .due("read(0, 0, 0, 0, 0)", UNKNOWN)
            .due("reading(0, 0, 0)", NONE)
            .due("holds(0, 0, 0, 0, 0)", UNKNOWN)
            .due("number(0, 0, 2, 0, 0)", LOST)
            .due("guesses(0, 0)", UNKNOWN)
            .due("guess(0, 0, 0)", UNKNOWN)
            .due("sums(0, 0)", UNKNOWN)
            .due("sum(0, 0, 0, 0)", Long.MIN_VALUE)
            .due("start(0, 0, 0, 0, 0)", UNKNOWN)
            .due("act(0, 0)", UNKNOWN)
            .due("point(1)", 0);
    }

    static void p01NewObjectHasNoActs() {
        edges.run(1, "No POINTS, ACTS")
            .due("told(1)", 0)
            .due("made(0, 0, 0)", UNKNOWN)
            .due("makes(0, 0, 0, 0, 0, 0, 0)", UNKNOWN)
            .after("point(1)", "start(0, 3, 0, 0, 0)")
            .due("run(0, 1)", UNKNOWN)
            .due("made(0, 0, 0)", UNKNOWN)
            .due("act(0, 0)", 0);
    }

    static void p01NewObjectHasNoStart() {
        edges.run(1, "no START.")
            .due("told(2)", 0)
            .due("kept()", STATE)
            .due("search(0)", STATE)
            .due("run(0, 0)", STATE)
            .after("point(1)", "read(0, 0, 0, 0, 0)", "act(0, 0)")
            .due("told(2)", 0)
            .due("kept()", STATE)
            .due("search(5)", STATE)
            .due("run(0, 1)", STATE);
    }

    static void p01NothingHasDiedOrBrokenYet() {
        edges.run(1, "No POINTS, ACTS, no START.")
            .due("told(3)", 0)
            .each("died(#)", UNKNOWN, 0, 1, 47)
            .each("broke(#)", NONE, 0, 1, 2, 3, 6, 10, 14);
    }

    static void p01ObjectsShareNothing() {
        Run first = edges.run(1, "No POINTS, ACTS, no START.")
            .after("point(1)", "read(0, 1, 0, 0, 0)", "read(0, 2, 0, 0, 0)", "act(0, 0)", "start(0, 9, 0, 0, 0)",
                "search(0)");
        edges.run(1, "No POINTS, ACTS, no START.")
            .each("told(#)", 0, 0, 1, 2, 3)
            .due("broke(0)", NONE)
            .due("point(4)", 0)
            .due("tried(0, 0)", 0);
        first.due("variables(0)", 1).due("tried(0, 0)", 2).due("told(3)", 2).due("broke(3)", 9);
    }

    static void p01AnObjectServes512Calls() {
        Run run = edges.run(1, "An object is used for at most 512 calls after it has been made");
        run.times(6, "point(4)").times(10, "act(0, 0)").after("start(0, 1, 2, 3, 4)");
        for (int p = 0; p < 6; p++) {
            run.times(40, "read(" + p + ", 1, 2, 3, 4)");
        }
        while (run.calls() < Run.MOST_CALLS - 1) {
            run.due("read(5, 0, 0, 0, 0)", FULL);
        }
        run.due("sums(5, 0)", 4);
    }

    /** What the calls behind the 512th answer is free; that none of them throws, is a rule of the language. */
    static void p01LaterCallsEndToo() {
        RunLaws laws = new RunLaws();
        for (int call = 0; call < 5000; call++) {
            laws.point(call % 6);
            laws.read(call % 7, call % 31, 1, 2, 3);
            laws.act(call % 6, call % 5);
            laws.start(call % 6, call % 31, 0, 0, 0);
            laws.run(call, call % 10);
            laws.search(call % 3);
            laws.kept();
        }
        edges.check().due("1: still six points after many calls", laws.told(0), 6);
    }

    // ---- 2: point

    static void p02OneToFourVariables() {
        edges.run(2, "each with 1 to 4 VARIABLES, x(0) and so on.")
            .outside("point(#)", 1, 4, OUTSIDE)
            .due("told(0)", 0)
            .due("point(1)", 0)
            .due("point(4)", 1)
            .due("variables(0)", 1)
            .due("variables(1)", 4)
            .due("holds(0, 0, 0, 0, 0)", NONE)
            .due("holds(0, 0, 0, 1, 0)", UNKNOWN)
            .due("holds(1, 0, 0, 3, 0)", NONE)
            .due("holds(1, 0, 0, 4, 0)", UNKNOWN);
    }

    static void p02SixEver() {
        edges.run(2, "POINTS, 6 ever, numbered as they come")
            .due("point(1)", 0).due("point(1)", 1).due("point(1)", 2)
            .due("point(1)", 3).due("point(1)", 4).due("point(1)", 5)
            .each("point(#)", FULL, 1, 2, 3, 4)
            .due("told(0)", 6)
            .due("variables(5)", 1)
            .due("variables(6)", UNKNOWN);
    }

    static void p02RefusedOnesTakeNoNumber() {
        edges.run(2, "numbered as they come")
            .due("point(2)", 0)
            .due("point(0)", OUTSIDE)
            .due("point(5)", OUTSIDE)
            .due("point(3)", 1)
            .due("told(0)", 2);
    }

    static void p02OutsideAheadOfFull() {
        edges.run(2, "OUTSIDE; FULL.")
            .times(6, "point(4)")
            .outside("point(#)", 1, 4, OUTSIDE)
            .due("point(1)", FULL)
            .due("point(4)", FULL);
    }

    // ---- 3: split

    static void p03UnknownPoint() {
        edges.run(3, "UNKNOWN: POINT, VARIABLE")
            .after("point(1)", "point(1)")
            .outside("split(#, 0, 0)", 0, 1, UNKNOWN)
            .due("split(0, 0, 0)", 0)
            .due("split(1, 0, 0)", 0);
    }

    static void p03UnknownVariable() {
        Run run = edges.run(3, "UNKNOWN: POINT, VARIABLE").after("point(1)", "point(2)", "point(3)", "point(4)");
        for (int p = 0; p < 4; p++) {
            run.outside("split(" + p + ", #, 0)", 0, p, UNKNOWN);
            run.due("split(" + p + ", 0, 0)", 0);
            run.due("split(" + p + ", " + p + ", 0)", 0);
        }
    }

    static void p03BoundOutside() {
        edges.run(3, "OUTSIDE: c is not -30 .. 30.")
            .after("point(1)", "read(0, -30, 0, 0, 0)", "read(0, 29, 0, 0, 0)", "read(0, 30, 0, 0, 0)")
            .outside("split(0, 0, #)", -30, 30, OUTSIDE)
            .due("split(0, 0, -30)", 3)
            .due("split(0, 0, 30)", 1);
    }

    static void p03UnknownAheadOfOutside() {
        edges.run(3, "UNKNOWN: POINT, VARIABLE; OUTSIDE: c is not -30 .. 30.")
            .after("point(2)")
            .each("split(1, 0, #)", UNKNOWN, -31, 31)
            .each("split(0, 2, #)", UNKNOWN, -31, 31)
            .each("split(0, -1, #)", UNKNOWN, -31, 31)
            .each("split(0, 1, #)", OUTSIDE, -31, 31);
    }

    static void p03NotBelowTheBound() {
        edges.run(3, "its READINGS with that VARIABLE not below the bound are of SIDE 1, the others of SIDE 2")
            .after("point(1)", "read(0, 4, 0, 0, 0)", "read(0, 5, 0, 0, 0)", "read(0, 6, 0, 0, 0)")
            .due("split(0, 0, 5)", 2)
            .due("number(0, 1, 2, 0, 0)", 5)
            .due("number(0, 2, 3, 0, 0)", 4)
            .after("read(0, 5, 0, 0, 0)", "read(0, 4, 0, 0, 0)")
            .due("tried(0, 1)", 3)
            .due("tried(0, 2)", 2);
    }

    static void p03BoundBelowNought() {
        edges.run(3, "its READINGS with that VARIABLE not below the bound are of SIDE 1, the others of SIDE 2")
            .after("point(1)", "read(0, -6, 0, 0, 0)", "read(0, -5, 0, 0, 0)", "read(0, -4, 0, 0, 0)")
            .due("split(0, 0, -5)", 2)
            .due("number(0, 1, 2, 0, 0)", -5)
            .due("number(0, 2, 0, 0, 0)", -6);
    }

    static void p03AllOnOneSide() {
        edges.run(3, "all of SIDE 0")
            .after("point(2)", "read(0, 0, 7, 0, 0)", "read(0, 3, 9, 0, 0)")
            .due("split(0, 1, 7)", 2)
            .due("tried(0, 2)", 0)
            .due("holds(0, 2, 2, 0, 0)", NONE)
            .due("split(0, 1, 10)", 0)
            .due("tried(0, 1)", 0)
            .due("holds(0, 1, 2, 0, 0)", NONE)
            .due("tried(0, 2)", 2)
            .due("tried(0, 0)", 2);
    }

    static void p03WithoutASplitNone() {
        edges.run(3, "(without a SPLIT none of SIDES 1, 2)")
            .after("point(1)", "point(1)", "read(0, 5, 0, 0, 0)", "read(1, 5, 0, 0, 0)", "split(1, 0, 0)")
            .each("tried(0, #)", 0, 1, 2)
            .each("holds(0, #, 2, 0, 0)", NONE, 1, 2)
            .each("number(0, #, 2, 0, 0)", LOST, 1, 2)
            .each("guesses(0, #)", 0, 1, 2)
            .each("guess(0, #, 0)", UNKNOWN, 1, 2)
            .each("sums(0, #)", NONE, 1, 2)
            .each("sum(0, #, 0, 0)", Long.MIN_VALUE, 1, 2)
            .due("tried(1, 1)", 1);
    }

    static void p03OfAPointWithoutReadings() {
        edges.run(3, "how many are of SIDE 1.")
            .after("point(1)")
            .due("split(0, 0, -30)", 0)
            .due("split(0, 0, 30)", 0)
            .after("read(0, 30, 0, 0, 0)", "read(0, 29, 0, 0, 0)")
            .due("tried(0, 1)", 1)
            .due("tried(0, 2)", 1);
    }

    static void p03OfAFullPoint() {
        Run run = edges.run(3, "its READINGS are parted by it anew: how many are of SIDE 1.").after("point(2)");
        for (int r = 0; r < 40; r++) {
            run.after("read(0, " + (r - 20) + ", " + r % 3 + ", 0, 0)");
        }
        run.due("split(0, 0, -20)", 40)
            .due("split(0, 0, 19)", 1)
            .due("split(0, 0, 20)", 0)
            .due("split(0, 1, 2)", 13)
            .due("tried(0, 2)", 27)
            .due("split(0, 1, 1)", 26)
            .due("tried(0, 0)", 40);
    }

    static void p03PartedAnewInTheirOrder() {
        edges.run(3, "its READINGS are parted by it anew")
            .after("point(2)", "read(0, 1, 9, 0, 0)", "read(0, -1, 3, 0, 0)", "read(0, 2, 9, 0, 0)",
                "read(0, -2, 5, 0, 0)", "split(0, 0, 0)")
            .due("holds(0, 0, 9, 1, 0)", 0)
            .due("holds(0, 1, 9, 1, 0)", 1)
            .due("holds(0, 2, 9, 1, 0)", 1)
            .due("holds(0, 2, 9, 0, 0)", 0)
            .due("split(0, 1, 5)", 3)
            .due("holds(0, 1, 9, 1, 0)", 0)
            .due("holds(0, 1, 0, 1, 0)", 0)
            .due("number(0, 2, 0, 1, 0)", 3)
            .due("split(0, 0, 0)", 2)
            .due("number(0, 1, 0, 1, 0)", 9);
    }

    /** What a side was found to be ahead of a new split says nothing of the side behind it. */
    static void p03PartedAnewForgetsTheOldSides() {
        edges.run(3, "its READINGS are parted by it anew")
            .after("point(2)", "read(0, 10, 5, 0, 0)", "read(0, 4, 8, 0, 0)", "read(0, -1, -2, 0, 0)",
                "read(0, 5, -6, 0, 0)")
            .due("split(0, 0, 30)", 0)
            .due("holds(0, 2, 9, 0, 0)", 0)
            .due("holds(0, 2, 4, 0, 0)", 0)
            .due("holds(0, 2, 7, 1, 0)", 0)
            .due("holds(0, 2, 1, 0, 0)", 0)
            .due("split(0, 1, 0)", 2)
            .due("holds(0, 2, 9, 0, 0)", 1)
            .due("number(0, 2, 4, 0, 0)", 6)
            .due("holds(0, 2, 6, 1, 0)", 1)
            .due("holds(0, 2, 7, 0, 1)", 0)
            .due("number(0, 2, 1, 0, 0)", 2)
            .due("number(0, 2, 1, 0, 2)", -1)
            .due("number(0, 2, 2, 0, 0)", -1)
            .due("number(0, 2, 3, 0, 0)", 5)
            .due("split(0, 1, 8)", 1)
            .told(0, 1, 0, 10);
    }

    static void p03RefusedOnesLeaveTheSplit() {
        edges.run(3, "They change nothing.")
            .after("point(2)", "read(0, 1, 0, 0, 0)", "read(0, 2, 0, 0, 0)", "read(0, 3, 0, 0, 0)")
            .due("split(0, 0, 31)", OUTSIDE)
            .due("tried(0, 1)", 0)
            .due("split(0, 0, 2)", 2)
            .each("split(0, 1, #)", OUTSIDE, -31, 31)
            .each("split(0, #, 0)", UNKNOWN, -1, 2)
            .due("tried(0, 1)", 2)
            .after("read(0, 0, 30, 0, 0)")
            .due("tried(0, 1)", 2)
            .due("tried(0, 2)", 2);
    }

    static void p03OnePointAlone() {
        edges.run(3, "A POINT's SPLIT: by VARIABLE v, bound c")
            .after("point(1)", "point(1)", "read(0, 5, 0, 0, 0)", "read(1, 5, 0, 0, 0)")
            .due("split(0, 0, 5)", 1)
            .due("tried(1, 1)", 0)
            .due("split(1, 0, 6)", 0)
            .due("tried(1, 2)", 1)
            .due("tried(0, 1)", 1);
    }

    // ---- 4: read

    static void p04UnknownPoint() {
        edges.run(4, "UNKNOWN; OUTSIDE; FULL.")
            .after("point(1)", "point(1)")
            .outside("read(#, 0, 0, 0, 0)", 0, 1, UNKNOWN)
            .due("told(3)", 0)
            .due("read(1, 0, 0, 0, 0)", 0)
            .due("tried(0, 0)", 0);
    }

    static void p04NumbersOutside() {
        edges.run(4, "a row of its VARIABLES' numbers (-30 .. 30)")
            .after("point(4)")
            .outside("read(0, #, 0, 0, 0)", -30, 30, OUTSIDE)
            .outside("read(0, 0, #, 0, 0)", -30, 30, OUTSIDE)
            .outside("read(0, 0, 0, #, 0)", -30, 30, OUTSIDE)
            .outside("read(0, 0, 0, 0, #)", -30, 30, OUTSIDE)
            .due("tried(0, 0)", 0)
            .due("read(0, -30, -30, -30, -30)", 0)
            .due("read(0, 30, 30, 30, 30)", 4)
            .each("reading(0, 0, #)", -30, 0, 1, 2, 3)
            .each("reading(0, 1, #)", 30, 0, 1, 2, 3);
    }

    static void p04NumbersBeyondAreNotLookedAt() {
        edges.run(4, "(numbers beyond its VARIABLES are not looked at)")
            .after("point(1)", "point(2)", "point(3)")
            .due("read(0, 1, 31, MAX, MIN)", 0)
            .due("read(0, 1, -31, 0, 99)", 0)
            .due("read(1, 1, 2, 31, MIN)", 0)
            .due("read(1, 1, 31, 0, 0)", OUTSIDE)
            .due("read(2, 1, 2, 3, MAX)", 0)
            .due("read(2, 1, 2, 31, 0)", OUTSIDE)
            .told(0, 0, 0)
            .told(1, 0, 0, 10)
            .told(2, 0, 0, 10, 20)
            .due("reading(0, 0, 1)", NONE)
            .due("reading(2, 0, 3)", NONE);
    }

    static void p04FortyEverEach() {
        edges.run(4, "READINGS of a POINT, 40 ever each")
            .after("point(1)", "point(1)")
            .times(39, "read(0, 1, 0, 0, 0)")
            .due("read(0, 2, 0, 0, 0)", 2)
            .due("tried(0, 0)", 40)
            .each("read(0, #, 0, 0, 0)", FULL, -30, 1, 2, 3, 30)
            .due("tried(0, 0)", 40)
            .due("reading(0, 39, 0)", 2)
            .due("number(0, 0, 3, 0, 0)", 2)
            .times(40, "read(1, 7, 0, 0, 0)")
            .due("read(1, 7, 0, 0, 0)", FULL);
    }

    static void p04ASplitMakesNoRoom() {
        edges.run(4, "READINGS of a POINT, 40 ever each")
            .after("point(1)", "split(0, 0, 0)")
            .times(40, "read(0, 5, 0, 0, 0)")
            .due("tried(0, 1)", 40)
            .due("tried(0, 2)", 0)
            .due("read(0, -5, 0, 0, 0)", FULL)
            .due("split(0, 0, 6)", 0)
            .due("read(0, 6, 0, 0, 0)", FULL)
            .due("tried(0, 2)", 40);
    }

    static void p04OutsideAheadOfFull() {
        edges.run(4, "UNKNOWN; OUTSIDE; FULL.")
            .after("point(2)")
            .times(40, "read(0, 0, 0, 0, 0)")
            .outside("read(0, 0, #, 0, 0)", -30, 30, OUTSIDE)
            .due("read(0, 0, 0, 31, 31)", FULL)
            .due("read(1, 0, 0, 0, 0)", UNKNOWN);
    }

    static void p04UnknownAheadOfOutside() {
        edges.run(4, "UNKNOWN; OUTSIDE; FULL.")
            .after("point(1)")
            .each("read(1, #, 0, 0, 0)", UNKNOWN, -31, 31)
            .each("read(-1, #, 0, 0, 0)", UNKNOWN, -31, 31)
            .each("read(0, #, 0, 0, 0)", OUTSIDE, -31, 31);
    }

    static void p04TheFirstLetsNoneDie() {
        edges.run(4, "held ahead of it, and do not hold now")
            .after("point(2)", "split(0, 0, 0)")
            .due("read(0, 3, -3, 0, 0)", 0)
            .dead()
            .due("read(0, 3, -3, 0, 0)", 0)
            .dead();
    }

    static void p04TheFirstOfASideLetsNoneOfItDie() {
        edges.run(4, "held ahead of it, and do not hold now")
            .after("point(1)", "split(0, 0, 0)", "read(0, 12, 0, 0, 0)")
            .due("read(0, -12, 0, 0, 0)", 2)
            .dead(0, 900);
    }

    static void p04SidesOneAndTwoCountToo() {
        edges.run(4, "how many GUESSES (of SIDES 0, 1, 2; SUMS left out)")
            .after("point(1)", "split(0, 0, 0)", "read(0, 5, 0, 0, 0)", "read(0, -5, 0, 0, 0)")
            .due("read(0, 6, 0, 0, 0)", 3)
            .dead(400, 1000, 1400)
            .due("read(0, -6, 0, 0, 0)", 4)
            .dead(100, 2000, 2400, 2900);
    }

    static void p04WithoutASplitSideNoughtAlone() {
        edges.run(4, "how many GUESSES (of SIDES 0, 1, 2; SUMS left out)")
            .after("point(1)", "read(0, 5, 0, 0, 0)")
            .due("read(0, 4, 0, 0, 0)", 3)
            .dead(0, 400, 900);
    }

    static void p04SumsAreLeftOut() {
        edges.run(4, "SUMS left out")
            .after("point(2)", "read(0, 0, 1, 0, 0)", "read(0, 1, 2, 0, 0)", "read(0, 3, 4, 0, 0)",
                "read(0, 6, 7, 0, 0)")
            .due("sums(0, 0)", 1)
            .due("read(0, 10, 12, 0, 0)", 0)
            .dead()
            .due("sums(0, 0)", 0);
    }

    static void p04MostThatCanDieAtOnce() {
        edges.run(4, "how many GUESSES (of SIDES 0, 1, 2; SUMS left out) held ahead of it")
            .after("point(4)", "split(0, 0, -30)", "read(0, 27, 28, 29, 30)")
            // Twice: four each of CONSTANT, REST (1, 13, 17 and 19 apart) and RISES, six of BELOW and of NOT ABOVE.
            .due("read(0, 26, 15, 12, 11)", 48)
            .due("told(3)", 48)
            .due("died(0)", 0)
            .due("died(23)", 930)
            .due("died(24)", 1000)
            .due("died(47)", 1930)
            .due("died(48)", UNKNOWN);
    }

    static void p04TwoOrThreeDieAtTheFourth() {
        edges.run(4, "held ahead of it, and do not hold now")
            .after("point(1)", "read(0, 0, 0, 0, 0)")
            .due("read(0, 12, 0, 0, 0)", 1)
            .due("read(0, 24, 0, 0, 0)", 0)
            .due("read(0, 24, 0, 0, 0)", 0)
            .due("read(0, 30, 0, 0, 0)", 1)
            .dead(100);
    }

    // ---- 5: died

    static void p05NoneYet() {
        edges.run(5, "The i-th GUESS that the latest read() let die")
            .each("died(#)", UNKNOWN, 0, 1, -1)
            .after("point(1)")
            .due("died(0)", UNKNOWN)
            .after("read(0, 1, 0, 0, 0)")
            .due("died(0)", UNKNOWN);
    }

    static void p05NoSuchOne() {
        edges.run(5, "1000 SIDE and its CODE, rising. UNKNOWN.")
            .after("point(1)", "read(0, 5, 0, 0, 0)")
            .due("read(0, 4, 0, 0, 0)", 3)
            .outside("died(#)", 0, 2, UNKNOWN)
            .due("died(0)", 0)
            .due("died(2)", 900);
    }

    static void p05RisingOverSides() {
        edges.run(5, "1000 SIDE and its CODE, rising.")
            .after("point(2)", "split(0, 1, 0)", "read(0, 1, 1, 0, 0)", "read(0, 2, -1, 0, 0)")
            .due("read(0, 3, -3, 0, 0)", 4)
            .dead(2000, 2010, 2400, 2910)
            .due("read(0, 1, 2, 0, 0)", 8)
            .dead(110, 410, 710, 900, 1010, 1410, 1501, 1710);
    }

    static void p05TheLatestAlone() {
        edges.run(5, "The i-th GUESS that the latest read() let die")
            .after("point(1)", "point(1)", "read(0, 5, 0, 0, 0)", "read(0, 4, 0, 0, 0)")
            .dead(0, 400, 900)
            .after("read(1, 5, 0, 0, 0)")
            .dead()
            .after("read(1, 6, 0, 0, 0)")
            .dead(0, 400);
    }

    static void p05RefusedOnesLeaveThem() {
        edges.run(5, "They change nothing.")
            .after("point(1)")
            .times(39, "read(0, 5, 0, 0, 0)")
            .due("read(0, 4, 0, 0, 0)", 3)
            .due("read(0, 3, 0, 0, 0)", FULL)
            .dead(0, 400, 900)
            .due("read(0, 31, 0, 0, 0)", OUTSIDE)
            .dead(0, 400, 900)
            .due("read(1, 0, 0, 0, 0)", UNKNOWN)
            .dead(0, 400, 900);
    }

    static void p05ASplitLetsNoneDie() {
        edges.run(5, "The i-th GUESS that the latest read() let die")
            .after("point(1)", "split(0, 0, 5)", "read(0, 5, 0, 0, 0)", "read(0, 7, 0, 0, 0)")
            .dead(0, 1000)
            .due("split(0, 0, 6)", 1)
            .dead(0, 1000);
    }

    // ---- 6: reading

    static void p06UnknownPoint() {
        edges.run(6, "NONE: UNKNOWN: POINT, READING, VARIABLE.")
            .after("point(1)", "point(1)", "read(0, 4, 0, 0, 0)", "read(1, 5, 0, 0, 0)")
            .outside("reading(#, 0, 0)", 0, 1, NONE)
            .due("reading(0, 0, 0)", 4)
            .due("reading(1, 0, 0)", 5);
    }

    static void p06UnknownReading() {
        Run run = edges.run(6, "NONE: UNKNOWN: POINT, READING, VARIABLE.").after("point(1)");
        run.each("reading(0, #, 0)", NONE, 0, -1, 1);
        for (int r = 0; r < 40; r++) {
            run.after("read(0, " + (r - 15) + ", 0, 0, 0)");
            run.due("reading(0, " + r + ", 0)", r - 15);
            run.due("reading(0, " + (r + 1) + ", 0)", NONE);
        }
        run.due("read(0, 30, 0, 0, 0)", FULL);
        run.outside("reading(0, #, 0)", 0, 39, NONE);
        run.due("reading(0, 0, 0)", -15);
    }

    static void p06UnknownVariable() {
        Run run = edges.run(6, "NONE: UNKNOWN: POINT, READING, VARIABLE.");
        for (int p = 0; p < 4; p++) {
            run.after("point(" + (p + 1) + ")", "read(" + p + ", 1, 2, 3, 4)");
            run.outside("reading(" + p + ", 0, #)", 0, p, NONE);
            run.due("reading(" + p + ", 0, " + p + ")", p + 1);
        }
    }

    static void p06NoneMayBeANumber() {
        edges.run(6, "(-9 may be a number, too.)")
            .after("point(2)", "read(0, -9, 9, 0, 0)", "read(0, 0, -9, 0, 0)")
            .due("reading(0, 0, 0)", -9)
            .due("reading(0, 1, 1)", -9)
            .due("reading(0, 0, 1)", 9);
    }

    static void p06OfSideNought() {
        edges.run(6, "A number of a READING of SIDE 0.")
            .after("point(1)", "read(0, -5, 0, 0, 0)", "read(0, 5, 0, 0, 0)", "split(0, 0, 0)",
                "read(0, -6, 0, 0, 0)")
            .due("reading(0, 0, 0)", -5)
            .due("reading(0, 1, 0)", 5)
            .due("reading(0, 2, 0)", -6);
    }

    // ---- 7: tried

    static void p07UnknownPoint() {
        edges.run(7, "How many READINGS a POINT has of a SIDE. UNKNOWN.")
            .after("point(1)", "point(1)")
            .outside("tried(#, 0)", 0, 1, UNKNOWN)
            .due("tried(1, 0)", 0);
    }

    static void p07UnknownSide() {
        edges.run(7, "How many READINGS a POINT has of a SIDE. UNKNOWN.")
            .after("point(1)")
            .outside("tried(0, #)", 0, 2, UNKNOWN)
            .after("split(0, 0, 0)", "read(0, 1, 0, 0, 0)")
            .outside("tried(0, #)", 0, 2, UNKNOWN)
            .due("tried(0, 0)", 1)
            .due("tried(0, 1)", 1)
            .due("tried(0, 2)", 0);
    }

    static void p07FromNoneToForty() {
        Run run = edges.run(7, "READINGS of a POINT, 40 ever each").after("point(1)", "split(0, 0, 20)");
        run.each("tried(0, #)", 0, 0, 1, 2);
        for (int r = 1; r <= 40; r++) {
            run.after("read(0, " + (r - 11) + ", 0, 0, 0)");
            run.due("tried(0, 0)", r);
            run.due("tried(0, 1)", r < 31 ? 0 : r - 30);
            run.due("tried(0, 2)", Math.min(r, 30));
        }
        run.due("read(0, 0, 0, 0, 0)", FULL);
        run.due("tried(0, 0)", 40);
    }
}
