/**
 * Laws guessed from watched runs of a small program, and what its acts do to them.
 * The words (point, side, guess, told, sum, act, lost ..) are those of the document.
 */
public final class RunLaws {
    public static final int UNKNOWN = -1, OUTSIDE = -2, STATE = -3, FULL = -4, NONE = -9;

    private static final int MOST_POINTS = 6;
    private static final int MOST_VARIABLES = 4;
    private static final int MOST_READINGS = 40;
    private static final int MOST_ACTS = 10;
    private static final int MOST_DEPTH = 5;
    private static final int MOST_DIGITS = 9;
    private static final int SIDES = 3;
    private static final int REACH = 30;
    private static final int MOST_MULTIPLE = 9;
    private static final int MOST_WHOLE = 99;
    private static final int WHOLE_PLACE = 4;
    private static final int MOST_FEW = 3;
    private static final int LEAST_MODULUS = 2;
    private static final int MOST_MODULUS = 12;

    // Four variables: 6 shapes of one by 4, and 6 + 12 + 12 + 6 pairs.
    private static final int MOST_GUESSES = 60;

    private static final int LOST = -1000;
    private static final int NOT_KEPT = -20;

    // Written out: the language's list has functions of Long, but no constants of it.
    private static final long NO_SUM = 0x8000000000000000L;

    private static final int CONSTANT = 0;
    private static final int FEW = 1;
    private static final int LEAST = 2;
    private static final int GREATEST = 3;
    private static final int REST = 4;
    private static final int ALIKE = 5;
    private static final int BELOW = 6;
    private static final int NOT_ABOVE = 7;
    private static final int UNLIKE = 8;
    private static final int RISES = 9;

    // How two numbers stood to each other, as bits, so that a pair's whole past is one number.
    private static final int UNDER = 1;
    private static final int SAME = 2;
    private static final int OVER = 4;

    private final Program program;
    private final Search searcher;
    private final int[] given;
    private final int[] next;
    private final int[] codes;
    private final int[] dead;
    private int deadCount;

    public RunLaws() {
        program = new Program();
        searcher = new Search(program);
        given = new int[MOST_VARIABLES];
        next = new int[MOST_VARIABLES];
        codes = new int[MOST_GUESSES];
        dead = new int[SIDES * MOST_GUESSES];
        deadCount = 0;
    }

    // ---- 1 points, readings

    public int point(int k) {
        if (k < 1 || k > MOST_VARIABLES) {
            return OUTSIDE;
        }
        return program.addPoint(k);
    }

    public int split(int p, int v, int c) {
        Point point = program.pointAt(p);
        if (point == null || !point.hasVariable(v)) {
            return UNKNOWN;
        }
        if (!isWithin(c, REACH)) {
            return OUTSIDE;
        }
        point.part(v, c);
        return point.sides[1].count;
    }

    public int read(int p, int a, int b, int c, int d) {
        Point point = program.pointAt(p);
        if (point == null) {
            return UNKNOWN;
        }
        fill(given, a, b, c, d);
        if (!areWithin(given, point.size, REACH)) {
            return OUTSIDE;
        }
        return takeReading(point, given);
    }

    public int died(int i) {
        return i >= 0 && i < deadCount ? dead[i] : UNKNOWN;
    }

    public int reading(int p, int r, int v) {
        Point point = program.pointAt(p);
        if (point == null || r < 0 || r >= point.count || !point.hasVariable(v)) {
            return NONE;
        }
        return point.readings[r][v];
    }

    public int tried(int p, int side) {
        Facts facts = program.factsAt(p, side);
        return facts == null ? UNKNOWN : facts.count;
    }

    public int holds(int p, int side, int shape, int i, int j) {
        Facts facts = program.factsAt(p, side);
        if (facts == null || !facts.hasVariable(i)) {
            return UNKNOWN;
        }
        int other = 0;
        if (isOfTwo(shape)) {
            if (!facts.hasVariable(j)) {
                return UNKNOWN;
            }
            other = j;
        }
        if (!isGuess(shape, i, other)) {
            return OUTSIDE;
        }
        if (facts.count == 0) {
            return NONE;
        }
        return facts.stands(shape, i, other) ? 1 : 0;
    }

    public int number(int p, int side, int shape, int i, int what) {
        Facts facts = program.factsAt(p, side);
        if (facts == null || !facts.hasVariable(i) || shape < CONSTANT || shape > REST) {
            return LOST;
        }
        return facts.stands(shape, i, 0) ? facts.numberOf(shape, i, what) : LOST;
    }

    public int guesses(int p, int side) {
        Facts facts = program.factsAt(p, side);
        return facts == null ? UNKNOWN : facts.list(true, codes);
    }

    public int guess(int p, int side, int k) {
        Facts facts = program.factsAt(p, side);
        if (facts == null || k < 0 || k >= facts.list(true, codes)) {
            return UNKNOWN;
        }
        return codes[k];
    }

    public int sums(int p, int side) {
        Facts facts = program.factsAt(p, side);
        if (facts == null) {
            return UNKNOWN;
        }
        return facts.count == 0 ? NONE : facts.basisSize();
    }

    public long sum(int p, int side, int s, int c) {
        Facts facts = program.factsAt(p, side);
        if (facts == null || s < 0 || s >= facts.basisSize() || c < 0 || c > facts.size) {
            return NO_SUM;
        }
        return facts.table.basisRow(s)[c];
    }

    // ---- 2 the program

    public int start(int p, int a, int b, int c, int d) {
        Point point = program.pointAt(p);
        if (point == null) {
            return UNKNOWN;
        }
        fill(given, a, b, c, d);
        if (!areWithin(given, point.size, REACH)) {
            return OUTSIDE;
        }
        program.setStart(p, given);
        return 1;
    }

    public int act(int from, int to) {
        Point first = program.pointAt(from);
        Point second = program.pointAt(to);
        if (first == null || second == null) {
            return UNKNOWN;
        }
        return program.addAct(from, to, first.size, second.size);
    }

    public int makes(int act, int v, int a, int b, int c, int d, int e) {
        Act changed = program.actAt(act);
        if (changed == null || !changed.hasVariable(v)) {
            return UNKNOWN;
        }
        fill(given, a, b, c, d);
        if (!areWithin(given, changed.fromSize, MOST_MULTIPLE) || !isWithin(e, MOST_WHOLE)) {
            return OUTSIDE;
        }
        changed.set(v, given, e);
        return 1;
    }

    public int made(int act, int v, int c) {
        Act asked = program.actAt(act);
        if (asked == null || !asked.hasVariable(v)) {
            return UNKNOWN;
        }
        return c >= 0 && c <= WHOLE_PLACE ? asked.parts[v][c] : OUTSIDE;
    }

    public int kept() {
        if (!program.hasStart()) {
            return STATE;
        }
        int lost = program.sumWrongAtStart();
        if (lost >= 0) {
            return NOT_KEPT - lost;
        }
        for (int a = 0; a < program.actCount; a++) {
            lost = program.sumLostBy(program.acts[a]);
            if (lost >= 0) {
                return NOT_KEPT - 100 * (a + 1) - lost;
            }
        }
        return 1;
    }

    public int search(int n) {
        if (n < 0 || n > MOST_DEPTH) {
            return OUTSIDE;
        }
        return program.hasStart() ? searcher.find(n) : STATE;
    }

    public int broke(int what) {
        return searcher.tell(what);
    }

    public int run(int n, int m) {
        if (m < 0 || m > MOST_DIGITS || n < 0) {
            return OUTSIDE;
        }
        if (!program.hasStart()) {
            return STATE;
        }
        int at = program.startPoint;
        copy(program.startNumbers, given);
        int digits = n;
        for (int step = 0; step < m; step++) {
            Act act = program.actAt(digits % 10);
            digits /= 10;
            if (act == null || act.from != at) {
                return UNKNOWN;
            }
            if (!act.leads(given, next)) {
                return NONE;
            }
            at = act.to;
            copy(next, given);
        }
        Point point = program.pointAt(at);
        return point == null ? UNKNOWN : takeReading(point, given);
    }

    public int told(int what) {
        switch (what) {
            case 0:
                return program.pointCount;
            case 1:
                return program.actCount;
            case 2:
                return program.hasStart() ? 1 : 0;
            case 3:
                return deadCount;
            default:
                return OUTSIDE;
        }
    }

    public int variables(int p) {
        Point point = program.pointAt(p);
        return point == null ? UNKNOWN : point.size;
    }

    // ---- what the calls share

    /** A reading that is known to fit; side 0 goes first, so that the dead stand rising. */
    private int takeReading(Point point, int[] numbers) {
        if (point.count >= MOST_READINGS) {
            return FULL;
        }
        deadCount = 0;
        int own = point.sideOf(numbers);
        for (int side = 0; side < SIDES; side++) {
            if (side == 0 || side == own) {
                Facts facts = point.sides[side];
                int held = facts.list(false, codes);
                facts.add(numbers);
                noteDead(side, facts, held);
            }
        }
        point.keep(numbers);
        return deadCount;
    }

    private void noteDead(int side, Facts facts, int held) {
        for (int g = 0; g < held; g++) {
            int code = codes[g];
            if (deadCount < dead.length && !facts.stands(shapeOf(code), firstOf(code), secondOf(code))) {
                dead[deadCount] = 1000 * side + code;
                deadCount++;
            }
        }
    }

    private static boolean isWithin(int number, int reach) {
        return number >= -reach && number <= reach;
    }

    private static boolean areWithin(int[] numbers, int size, int reach) {
        for (int v = 0; v < size; v++) {
            if (!isWithin(numbers[v], reach)) {
                return false;
            }
        }
        return true;
    }

    private static void fill(int[] into, int a, int b, int c, int d) {
        into[0] = a;
        into[1] = b;
        into[2] = c;
        into[3] = d;
    }

    private static void copy(int[] from, int[] into) {
        for (int v = 0; v < from.length && v < into.length; v++) {
            into[v] = from[v];
        }
    }

    private static int codeOf(int shape, int i, int j) {
        return 100 * shape + 10 * i + j;
    }

    private static int shapeOf(int code) {
        return code / 100;
    }

    private static int firstOf(int code) {
        return code / 10 % 10;
    }

    private static int secondOf(int code) {
        return code % 10;
    }

    private static boolean isOfTwo(int shape) {
        return shape >= ALIKE && shape <= UNLIKE;
    }

    /** Whether the shape has a guess of these places; a shape of one variable has j 0 alone. */
    private static boolean isGuess(int shape, int i, int j) {
        switch (shape) {
            case ALIKE:
            case UNLIKE:
                return i < j;
            case BELOW:
            case NOT_ABOVE:
                return i != j;
            default:
                return shape >= CONSTANT && shape <= RISES && j == 0;
        }
    }

    private static int orderOf(int x, int y) {
        if (x == y) {
            return SAME;
        }
        return x < y ? UNDER : OVER;
    }

    private static boolean fitsOrders(int shape, int orders) {
        switch (shape) {
            case ALIKE:
                return orders == SAME;
            case BELOW:
                return orders == UNDER;
            case NOT_ABOVE:
                return (orders & OVER) == 0;
            case UNLIKE:
                return (orders & SAME) == 0;
            default:
                return false;
        }
    }

    /** The greatest common divisor, never below 0; that of 0 and 0 is 0. */
    private static long divisorOf(long a, long b) {
        long x = a < 0 ? -a : a;
        long y = b < 0 ? -b : b;
        // Of two longs Euclid's steps are never more than 92.
        for (int step = 0; step < 100 && y != 0; step++) {
            long rest = x % y;
            x = y;
            y = rest;
        }
        return x;
    }

    /** A point with its readings, parted into sides. */
    private static final class Point {
        final int size;
        final int[][] readings;
        final Facts[] sides;
        int count;
        private int splitVariable;
        private int splitBound;

        Point(int variableCount) {
            size = variableCount;
            readings = new int[MOST_READINGS][variableCount];
            sides = new Facts[SIDES];
            for (int side = 0; side < SIDES; side++) {
                sides[side] = new Facts(variableCount);
            }
            count = 0;
            splitVariable = NONE;
            splitBound = 0;
        }

        boolean hasVariable(int v) {
            return v >= 0 && v < size;
        }

        /** The side beside 0 that numbers are of; 0 where there is no split. */
        int sideOf(int[] numbers) {
            if (!hasVariable(splitVariable)) {
                return 0;
            }
            return numbers[splitVariable] >= splitBound ? 1 : 2;
        }

        void keep(int[] numbers) {
            if (count < MOST_READINGS) {
                copy(numbers, readings[count]);
                count++;
            }
        }

        void part(int v, int bound) {
            splitVariable = v;
            splitBound = bound;
            sides[1].clear();
            sides[2].clear();
            for (int r = 0; r < count; r++) {
                sides[sideOf(readings[r])].add(readings[r]);
            }
        }
    }

    /** What the readings of one side say of each guess, kept so that no reading is looked at twice. */
    private static final class Facts {
        final int size;
        final Table table;
        int count;
        private final int[] first;
        private final int[] last;
        private final int[] least;
        private final int[] greatest;
        private final boolean[] fell;
        private final long[] step;
        private final int[] modulus;
        private final int[] unlike;
        private final int[][] few;
        private final int[][] orders;

        Facts(int variableCount) {
            size = variableCount;
            table = new Table(variableCount + 1);
            first = new int[variableCount];
            last = new int[variableCount];
            least = new int[variableCount];
            greatest = new int[variableCount];
            fell = new boolean[variableCount];
            step = new long[variableCount];
            modulus = new int[variableCount];
            unlike = new int[variableCount];
            few = new int[variableCount][MOST_FEW];
            orders = new int[variableCount][variableCount];
            count = 0;
        }

        boolean hasVariable(int v) {
            return v >= 0 && v < size;
        }

        void clear() {
            count = 0;
            table.clear();
        }

        void add(int[] numbers) {
            for (int i = 0; i < size; i++) {
                if (count == 0) {
                    begin(i, numbers[i]);
                } else {
                    goOn(i, numbers[i]);
                }
                for (int j = 0; j < size; j++) {
                    orders[i][j] |= orderOf(numbers[i], numbers[j]);
                }
            }
            table.add(numbers);
            count++;
        }

        private void begin(int i, int x) {
            first[i] = x;
            last[i] = x;
            least[i] = x;
            greatest[i] = x;
            fell[i] = false;
            step[i] = 0;
            modulus[i] = MOST_MODULUS;
            unlike[i] = 1;
            few[i][0] = x;
            for (int j = 0; j < size; j++) {
                orders[i][j] = 0;
            }
        }

        private void goOn(int i, int x) {
            if (x < last[i]) {
                fell[i] = true;
            }
            last[i] = x;
            least[i] = Math.min(least[i], x);
            greatest[i] = Math.max(greatest[i], x);
            step[i] = divisorOf(step[i], x - first[i]);
            modulus[i] = greatestModulus(step[i]);
            noteNumber(i, x);
        }

        /** All numbers that lie whole steps apart leave one rest by m just when m divides the step. */
        private static int greatestModulus(long apart) {
            for (int m = MOST_MODULUS; m >= LEAST_MODULUS; m--) {
                if (apart % m == 0) {
                    return m;
                }
            }
            return 0;
        }

        /** Keeps up to three unlike numbers, rising; a fourth is counted alone. */
        private void noteNumber(int i, int x) {
            if (unlike[i] > MOST_FEW || isAmongFew(i, x)) {
                return;
            }
            int place = unlike[i];
            unlike[i]++;
            if (place >= MOST_FEW) {
                return;
            }
            int[] numbers = few[i];
            for (; place > 0 && numbers[place - 1] > x; place--) {
                numbers[place] = numbers[place - 1];
            }
            numbers[place] = x;
        }

        private boolean isAmongFew(int i, int x) {
            for (int f = 0; f < unlike[i] && f < MOST_FEW; f++) {
                if (few[i][f] == x) {
                    return true;
                }
            }
            return false;
        }

        /** Whether a guess of this point holds of the readings so far; none holds of no readings. */
        boolean stands(int shape, int i, int j) {
            if (count == 0 || !hasVariable(i) || !hasVariable(j)) {
                return false;
            }
            switch (shape) {
                case CONSTANT:
                    return unlike[i] == 1;
                case FEW:
                    return unlike[i] > 1 && unlike[i] <= MOST_FEW;
                case LEAST:
                case GREATEST:
                    return true;
                case REST:
                    return modulus[i] > 0;
                case RISES:
                    return !fell[i];
                default:
                    return fitsOrders(shape, orders[i][j]);
            }
        }

        /** A number of a guess of one variable that stands. */
        int numberOf(int shape, int i, int what) {
            if (shape == FEW && what >= 2) {
                return what - 2 < unlike[i] && what - 2 < MOST_FEW ? few[i][what - 2] : LOST;
            }
            if (shape == REST && what == 1) {
                return restOf(first[i], modulus[i]);
            }
            if (what != 0) {
                return LOST;
            }
            switch (shape) {
                case CONSTANT:
                case LEAST:
                    return least[i];
                case GREATEST:
                    return greatest[i];
                case FEW:
                    return unlike[i];
                case REST:
                    return modulus[i];
                default:
                    return LOST;
            }
        }

        private static int restOf(int x, int m) {
            return m > 0 ? Math.floorMod(x, m) : LOST;
        }

        /** The codes of the guesses that stand, or of the told ones alone, rising: how many. */
        int list(boolean toldAlone, int[] into) {
            int found = 0;
            for (int shape = CONSTANT; shape <= RISES; shape++) {
                for (int i = 0; i < size; i++) {
                    for (int j = 0; j < size; j++) {
                        if (isGuess(shape, i, j) && found < into.length
                                && (toldAlone ? isTold(shape, i, j) : stands(shape, i, j))) {
                            into[found] = codeOf(shape, i, j);
                            found++;
                        }
                    }
                }
            }
            return found;
        }

        private boolean isTold(int shape, int i, int j) {
            if (!stands(shape, i, j)) {
                return false;
            }
            if (shape == CONSTANT) {
                return true;
            }
            boolean constant = stands(CONSTANT, i, 0);
            if (!isOfTwo(shape)) {
                return !constant;
            }
            if (constant && stands(CONSTANT, j, 0)) {
                return false;
            }
            if (shape == NOT_ABOVE) {
                // ALIKE has i below j alone, but the orders of a pair say it from both sides.
                return !stands(ALIKE, i, j) && !stands(BELOW, i, j);
            }
            return shape != UNLIKE || !stands(BELOW, i, j) && !stands(BELOW, j, i);
        }

        /** Whether a guess that stands does not hold of these numbers alone. */
        boolean isBrokenBy(int[] numbers, int shape, int i, int j) {
            if (!hasVariable(i) || !hasVariable(j)) {
                return false;
            }
            int x = numbers[i];
            switch (shape) {
                case CONSTANT:
                    return x != first[i];
                case FEW:
                    return !isAmongFew(i, x);
                case LEAST:
                    return x < least[i];
                case GREATEST:
                    return x > greatest[i];
                case REST:
                    return restOf(x, modulus[i]) != restOf(first[i], modulus[i]);
                case RISES:
                    return false;
                default:
                    return !fitsOrders(shape, orderOf(x, numbers[j]));
            }
        }

        int basisSize() {
            return count == 0 ? 0 : table.freeCount();
        }

        /** Whether a row is made of multiples of the basis; of no readings there are no rows, so 0 alone is. */
        boolean spans(long[] row) {
            if (count > 0) {
                return table.isZeroOnAll(row);
            }
            for (int c = 0; c <= size && c < row.length; c++) {
                if (row[c] != 0) {
                    return false;
                }
            }
            return true;
        }
    }

    /**
     * The table of readings (with a 1 behind each), always in its solved shape, each row in whole
     * numbers without a common divisor. So they divide determinants of readings, and stay below 61 to
     * the 4th (those of a row on its way in: 150 times that): no product in here leaves the longs.
     */
    private static final class Table {
        private final int places;
        private final long[][] rows;
        private final int[] leads;
        private final long[] fresh;
        private final long[] basis;
        private int rank;

        Table(int placeCount) {
            places = placeCount;
            rows = new long[placeCount][placeCount];
            leads = new int[placeCount];
            fresh = new long[placeCount];
            basis = new long[placeCount];
            rank = 0;
        }

        void clear() {
            rank = 0;
        }

        void add(int[] numbers) {
            for (int c = 0; c < places - 1; c++) {
                fresh[c] = numbers[c];
            }
            fresh[places - 1] = 1;
            for (int r = 0; r < rank; r++) {
                clearPlace(fresh, rows[r], leads[r]);
            }
            int lead = leadOf(fresh);
            if (lead >= places || rank >= places) {
                return;
            }
            int at = insertFresh(lead);
            for (int r = 0; r < rank; r++) {
                if (r != at) {
                    clearPlace(rows[r], rows[at], lead);
                }
            }
        }

        private int leadOf(long[] row) {
            int c = 0;
            while (c < places && row[c] == 0) {
                c++;
            }
            return c;
        }

        private void clearPlace(long[] row, long[] by, int place) {
            long mine = row[place];
            long its = by[place];
            if (mine == 0) {
                return;
            }
            for (int c = 0; c < places; c++) {
                row[c] = row[c] * its - by[c] * mine;
            }
            shorten(row);
        }

        private void shorten(long[] row) {
            long common = 0;
            for (int c = 0; c < places; c++) {
                common = divisorOf(common, row[c]);
            }
            if (common > 1) {
                for (int c = 0; c < places; c++) {
                    row[c] /= common;
                }
            }
        }

        /** Puts the fresh row where its lead belongs, with the lead above 0; it has no common divisor by now. */
        private int insertFresh(int lead) {
            int at = rank;
            for (; at > 0 && leads[at - 1] > lead; at--) {
                leads[at] = leads[at - 1];
                for (int c = 0; c < places; c++) {
                    rows[at][c] = rows[at - 1][c];
                }
            }
            boolean turned = fresh[lead] < 0;
            for (int c = 0; c < places; c++) {
                rows[at][c] = turned ? -fresh[c] : fresh[c];
            }
            leads[at] = lead;
            rank++;
            return at;
        }

        int freeCount() {
            return places - rank;
        }

        /** The place of the s-th number that leads no row. */
        private int freePlace(int s) {
            int r = 0;
            int free = 0;
            for (int c = 0; c < places; c++) {
                if (r < rank && leads[r] == c) {
                    r++;
                } else if (free == s) {
                    return c;
                } else {
                    free++;
                }
            }
            return places - 1;
        }

        /** The s-th sum of the basis, in a row that the next call uses again. */
        long[] basisRow(int s) {
            int free = freePlace(s);
            long scale = 1;
            for (int r = 0; r < rank; r++) {
                scale = commonMultiple(scale, shortLead(r, free));
            }
            for (int c = 0; c < places; c++) {
                basis[c] = 0;
            }
            basis[free] = scale;
            for (int r = 0; r < rank; r++) {
                long lead = rows[r][leads[r]];
                if (lead != 0) {
                    basis[leads[r]] = -(rows[r][free] * scale / lead);
                }
            }
            return basis;
        }

        /** What is left below the line of the fraction: number in the place by the row's lead. */
        private long shortLead(int r, int place) {
            long lead = rows[r][leads[r]];
            long common = divisorOf(lead, rows[r][place]);
            return common > 0 ? lead / common : 1;
        }

        private static long commonMultiple(long a, long b) {
            long common = divisorOf(a, b);
            return common > 0 ? a / common * b : 1;
        }

        /** The basis is all that is zero on each row: so a row made of it needs no search for its multiples. */
        boolean isZeroOnAll(long[] row) {
            for (int r = 0; r < rank; r++) {
                long total = 0;
                for (int c = 0; c < places; c++) {
                    total += row[c] * rows[r][c];
                }
                if (total != 0) {
                    return false;
                }
            }
            return true;
        }
    }

    /** An act: for each variable of its second point the multiples of the first one's, and a whole number. */
    private static final class Act {
        final int from;
        final int to;
        final int fromSize;
        final int toSize;
        final int[][] parts;

        Act(int fromPoint, int toPoint, int fromVariables, int toVariables) {
            from = fromPoint;
            to = toPoint;
            fromSize = fromVariables;
            toSize = toVariables;
            parts = new int[toVariables][WHOLE_PLACE + 1];
        }

        boolean hasVariable(int v) {
            return v >= 0 && v < toSize;
        }

        void set(int v, int[] multiples, int whole) {
            for (int c = 0; c < fromSize; c++) {
                parts[v][c] = multiples[c];
            }
            parts[v][WHOLE_PLACE] = whole;
        }

        /** Makes the numbers that it leads to; false where they are lost. */
        boolean leads(int[] before, int[] after) {
            for (int v = 0; v < toSize; v++) {
                int[] part = parts[v];
                int total = part[WHOLE_PLACE];
                for (int c = 0; c < fromSize; c++) {
                    total += part[c] * before[c];
                }
                if (!isWithin(total, REACH)) {
                    return false;
                }
                after[v] = total;
            }
            return true;
        }

        /** A sum of the second point, said of the first one's variables. */
        void putIn(long[] sum, long[] into) {
            for (int c = 0; c <= fromSize; c++) {
                int place = c < fromSize ? c : WHOLE_PLACE;
                long total = c < fromSize ? 0 : sum[toSize];
                for (int v = 0; v < toSize; v++) {
                    total += sum[v] * parts[v][place];
                }
                into[c] = total;
            }
        }
    }

    /** The points, the acts between them, and the start. */
    private static final class Program {
        private final Point[] points;
        final Act[] acts;
        final int[] startNumbers;
        private final long[] pulled;
        int pointCount;
        int actCount;
        int startPoint;

        Program() {
            points = new Point[MOST_POINTS];
            acts = new Act[MOST_ACTS];
            startNumbers = new int[MOST_VARIABLES];
            pulled = new long[MOST_VARIABLES + 1];
            pointCount = 0;
            actCount = 0;
            startPoint = NONE;
        }

        int addPoint(int variableCount) {
            if (pointCount >= MOST_POINTS) {
                return FULL;
            }
            points[pointCount] = new Point(variableCount);
            pointCount++;
            return pointCount - 1;
        }

        int addAct(int from, int to, int fromSize, int toSize) {
            if (actCount >= MOST_ACTS) {
                return FULL;
            }
            acts[actCount] = new Act(from, to, fromSize, toSize);
            actCount++;
            return actCount - 1;
        }

        Point pointAt(int p) {
            return p >= 0 && p < pointCount ? points[p] : null;
        }

        Facts factsAt(int p, int side) {
            Point point = pointAt(p);
            return point == null || side < 0 || side >= SIDES ? null : point.sides[side];
        }

        Act actAt(int a) {
            return a >= 0 && a < actCount ? acts[a] : null;
        }

        boolean hasStart() {
            return startPoint >= 0;
        }

        void setStart(int p, int[] numbers) {
            startPoint = p;
            copy(numbers, startNumbers);
        }

        /** The first sum of the start's point that is not 0 there; -1 where all are. */
        int sumWrongAtStart() {
            Facts facts = factsAt(startPoint, 0);
            if (facts == null) {
                return -1;
            }
            for (int s = 0; s < facts.basisSize(); s++) {
                long[] row = facts.table.basisRow(s);
                long total = row[facts.size];
                for (int v = 0; v < facts.size; v++) {
                    total += row[v] * startNumbers[v];
                }
                if (total != 0) {
                    return s;
                }
            }
            return -1;
        }

        /** The first sum of the act's second point that it does not keep; -1 where it keeps all. */
        int sumLostBy(Act act) {
            Facts before = act == null ? null : factsAt(act.from, 0);
            Facts after = act == null ? null : factsAt(act.to, 0);
            if (before == null || after == null) {
                return -1;
            }
            for (int s = 0; s < after.basisSize(); s++) {
                act.putIn(after.table.basisRow(s), pulled);
                if (!before.spans(pulled)) {
                    return s;
                }
            }
            return -1;
        }
    }

    /** A search over rows of acts, and what the latest one found that found something. */
    private static final class Search {
        private final Program program;
        private final Passed passed;
        private final int[][] toldCodes;
        private final int[] toldCounts;
        private final int[][] states;
        private final int[] at;
        private final int[] row;
        private int rows;
        private final int[] foundNumbers;
        private final int[] foundRow;
        private int foundPoint;
        private int foundCode;
        private int foundLength;
        private int foundSize;

        Search(Program searched) {
            program = searched;
            passed = new Passed();
            toldCodes = new int[MOST_POINTS][MOST_GUESSES];
            toldCounts = new int[MOST_POINTS];
            states = new int[MOST_DEPTH + 1][MOST_VARIABLES];
            at = new int[MOST_DEPTH + 1];
            row = new int[MOST_DEPTH];
            foundNumbers = new int[MOST_VARIABLES];
            foundRow = new int[MOST_DEPTH];
            foundPoint = NONE;
        }

        int find(int depth) {
            passed.forget();
            for (int p = 0; p < program.pointCount; p++) {
                Facts facts = program.factsAt(p, 0);
                toldCounts[p] = facts == null ? 0 : facts.list(true, toldCodes[p]);
            }
            rows = 0;
            at[0] = program.startPoint;
            copy(program.startNumbers, states[0]);
            for (int length = 0; length <= depth && length <= MOST_DEPTH; length++) {
                if (goThrough(0, length)) {
                    return rows;
                }
            }
            return NONE;
        }

        /** Goes through the rows of so many acts more from the state at a depth, up to one that breaks a guess. */
        private boolean goThrough(int depth, int left) {
            if (left <= 0 || depth >= MOST_DEPTH) {
                rows++;
                return breaksAt(depth);
            }
            int key = keyOf(depth, left);
            int known = passed.rowsOf(key);
            if (known >= 0) {
                rows += known;
                return false;
            }
            int ahead = rows;
            for (int a = 0; a < program.actCount; a++) {
                Act act = program.actAt(a);
                if (act == null || act.from != at[depth]) {
                    continue;
                }
                row[depth] = a;
                at[depth + 1] = act.to;
                if (!act.leads(states[depth], states[depth + 1])) {
                    rows += left == 1 ? 1 : 0;
                } else if (goThrough(depth + 1, left - 1)) {
                    return true;
                }
            }
            passed.keep(key, rows - ahead);
            return false;
        }

        private int keyOf(int depth, int left) {
            Point point = program.pointAt(at[depth]);
            int key = at[depth] * (MOST_DEPTH + 1) + left;
            for (int v = 0; v < MOST_VARIABLES; v++) {
                boolean looked = point != null && point.hasVariable(v);
                key = key * (2 * REACH + 1) + (looked ? states[depth][v] + REACH : 0);
            }
            return key;
        }

        private boolean breaksAt(int depth) {
            int p = at[depth];
            Facts facts = program.factsAt(p, 0);
            if (facts == null) {
                return false;
            }
            for (int g = 0; g < toldCounts[p]; g++) {
                int code = toldCodes[p][g];
                if (facts.isBrokenBy(states[depth], shapeOf(code), firstOf(code), secondOf(code))) {
                    noteFound(p, code, depth, facts.size);
                    return true;
                }
            }
            return false;
        }

        private void noteFound(int p, int code, int length, int size) {
            foundPoint = p;
            foundCode = code;
            foundLength = length;
            foundSize = size;
            copy(states[length], foundNumbers);
            copy(row, foundRow);
        }

        int tell(int what) {
            if (foundPoint < 0 || what < 0) {
                return NONE;
            }
            if (what >= 10) {
                return what - 10 < foundLength ? foundRow[what - 10] : NONE;
            }
            if (what >= 3) {
                return what - 3 < foundSize ? foundNumbers[what - 3] : NONE;
            }
            if (what == 2) {
                return foundLength;
            }
            return what == 0 ? foundPoint : foundCode;
        }
    }

    /**
     * How many rows go on from states that were gone through, and break nothing. Rows of acts meet in
     * one state again and again; ten acts five deep would be 111,111 rows. A slot holds the latest
     * state alone: what is pushed out is only gone through once more.
     */
    private static final class Passed {
        private static final int SLOT_BITS = 10;
        private static final int SPREAD = 0x9E3779B1;
        private static final int EMPTY = -1;

        private final int[] keys;
        private final int[] rows;

        Passed() {
            keys = new int[1 << SLOT_BITS];
            rows = new int[1 << SLOT_BITS];
        }

        void forget() {
            for (int slot = 0; slot < keys.length; slot++) {
                keys[slot] = EMPTY;
            }
        }

        int rowsOf(int key) {
            int slot = slotOf(key);
            return keys[slot] == key ? rows[slot] : EMPTY;
        }

        void keep(int key, int rowCount) {
            int slot = slotOf(key);
            keys[slot] = key;
            rows[slot] = rowCount;
        }

        private static int slotOf(int key) {
            return (key * SPREAD) >>> (32 - SLOT_BITS);
        }
    }
}
