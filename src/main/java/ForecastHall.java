/**
 * A hall of people that reckon a sky, cell by cell and step by step, by the lines of a plan.
 * Every row is made in a constructor and used again: no call makes an object.
 */
public final class ForecastHall {
    public static final int BAD = -1, NO = -2, FULL = -3, NONE = -4, VOID = 2000000000;

    private static final int LETTERS = 4;
    private static final int SIDES = 5;
    private static final int LAST_STEP = 12;
    private static final int LEAST_SIDE = 2;
    private static final int MOST_SIDE = 6;
    private static final int MOST_CELLS = 36;
    private static final int MOST_SMALL_CELLS = 9;
    private static final int MOST_BYTES = 160;
    private static final int MOST_TERMS = 80;
    private static final int MOST_FACTOR = 999;
    private static final int MOST_DIVISOR = 1000;
    private static final int MOST_SLIPS = 12;
    private static final int MOST_KEPT = 2;
    private static final int MOST_PEOPLE = 6;
    private static final int MOST_PACE = 20;
    private static final int MOST_WALK = 9;
    private static final int MOST_SHARERS = 3;
    private static final int MOST_SHARED_CELLS = 9;
    private static final int MOST_MINUTE = 100000;
    private static final int MOST_TOLD_NUMBER = 1000000;
    private static final int MOST_NUMBER = 1000000000;
    private static final long MOST_SUM = 1000000000000000L;
    private static final long MOST_TOLD_SUM = 1000000000000L;
    private static final int GAP = 2000000;
    private static final int BAD_FIRST = -2000000;
    private static final int BAD_NUMBER = -2000000000;
    private static final long BAD_SUM = -2000000000000L;
    private static final long UNTOLD = 2000000000000L;
    private static final int EDGE_ROUND = 0;
    private static final int EDGE_SELF = 1;
    private static final int EDGE_RIM = 2;
    private static final int RIM_SIDE = -1;
    private static final int NO_NAME = -1;
    private static final long VOID_TERM = 2000000000000000L;

    private final Grid grid;
    private final Grid smallGrid;
    private final Reader reader;
    private final Setting now;
    private final Setting[] stack;
    private int stacked;
    private final Board rightBoard;
    private final Board hallBoard;
    private final Board otherBoard;
    private final Board smallBoard;
    private final Marks marks;
    private final Checks checks;
    private final Crew crew;
    private final Times times;
    private final Share share;

    public ForecastHall() {
        grid = new Grid(3, 3);
        smallGrid = new Grid(1, 1);
        reader = new Reader();
        now = new Setting();
        stack = new Setting[] {new Setting(), new Setting()};
        rightBoard = new Board(MOST_CELLS, false);
        hallBoard = new Board(MOST_CELLS, true);
        otherBoard = new Board(MOST_CELLS, true);
        smallBoard = new Board(MOST_SMALL_CELLS, false);
        marks = new Marks();
        checks = new Checks();
        crew = new Crew();
        times = new Times();
        share = new Share();
    }

    public int sky(int w, int h) {
        if (w < LEAST_SIDE || w > MOST_SIDE || h < LEAST_SIDE || h > MOST_SIDE) {
            return BAD;
        }
        grid.shape(w, h, now.edge);
        now.clearFirsts();
        now.slips = 0;
        stacked = 0;
        checks.clearTold();
        times.giveAllToFirst();
        forgetNumbers();
        forgetTimes();
        return grid.cells;
    }

    public int rule(int what, int v) {
        if (what == 0 && v >= EDGE_ROUND && v <= EDGE_RIM) {
            int was = now.edge;
            now.edge = v;
            reshape();
            return was;
        }
        if (what == 1 && v >= 0 && v <= MOST_WALK) {
            int was = crew.walk;
            crew.walk = v;
            forgetTimes();
            return was;
        }
        return BAD;
    }

    public int rim(int letter, int v) {
        if (!isLetter(letter) || !isTold(v)) {
            return BAD_FIRST;
        }
        int was = now.rims[letter];
        now.rims[letter] = v;
        forgetNumbers();
        return was;
    }

    // ---- plans

    public int write(int n, long v) {
        if (n < 1 || n > 8) {
            return BAD;
        }
        if (reader.length + n > MOST_BYTES) {
            return FULL;
        }
        for (int i = n - 1; i >= 0; i--) {
            reader.append((int) (v >>> (8 * i)) & 255);
        }
        return reader.length;
    }

    public int wipe() {
        int was = reader.length;
        reader.length = 0;
        return was;
    }

    public int fault() {
        return reader.read();
    }

    public int plan() {
        if (reader.read() != NONE) {
            return NO;
        }
        now.plan.takeAll(reader.plan);
        forgetNumbers();
        return now.plan.lines;
    }

    public int line(int letter, int what) {
        if (!isLetter(letter) || what < 0 || what > 4) {
            return BAD;
        }
        if (now.plan.place[letter] < 0) {
            return NONE;
        }
        switch (what) {
            case 0: return now.plan.place[letter];
            case 1: return now.plan.terms[letter];
            case 2: return now.plan.divisor[letter];
            case 3: return now.plan.nearest[letter] ? 1 : 0;
            default: return now.plan.hasProduct(letter) ? 1 : 0;
        }
    }

    // ---- numbers

    public int first(int cell, int letter, int v) {
        if (!isCell(cell) || !isLetter(letter) || (v != GAP && !isTold(v))) {
            return BAD_FIRST;
        }
        int at = cell * LETTERS + letter;
        int was = now.firsts[at];
        now.firsts[at] = v;
        forgetNumbers();
        return was;
    }

    public int at(boolean right, int step, int cell, int letter) {
        if (!isStep(step) || !isCell(cell) || !isLetter(letter)) {
            return BAD_NUMBER;
        }
        return reckoned(right, step).number(step, cell, letter);
    }

    public int marked(int step, int cell, int letter) {
        if (!isStep(step) || !isCell(cell) || !isLetter(letter)) {
            return BAD;
        }
        marks.reach(grid, now, step);
        return marks.has(step, cell, letter) ? 1 : 0;
    }

    public long sum(boolean right, int step, int letter) {
        if (!isStep(step) || !isLetter(letter)) {
            return BAD_SUM;
        }
        Board board = reckoned(right, step);
        long total = 0;
        for (int y = 0; y < grid.high; y++) {
            total += board.rowSum(grid, step, letter, y);
        }
        return total;
    }

    public int slip(int step, int cell, int letter, int amount) {
        if (!isLaterStep(step) || !isCell(cell) || !isLetter(letter) || !isTold(amount) || amount == 0) {
            return BAD;
        }
        if (now.slips >= MOST_SLIPS) {
            return FULL;
        }
        now.addSlip(step, cell, letter, amount);
        forgetSlips();
        return now.slips;
    }

    public int mend() {
        if (now.slips < 1) {
            return NO;
        }
        now.slips--;
        forgetSlips();
        return now.slips;
    }

    public int spread(int i, int n, int what) {
        if (i < 0 || !isLaterStep(n) || what < 0 || what > 2) {
            return BAD;
        }
        if (i >= now.slips) {
            return NO;
        }
        reckonWithout(i, n);
        if (what == 0) {
            return otherwiseUpTo(n);
        }
        if (what == 1) {
            return lastOtherwise(n);
        }
        return otherwiseIn(n) == 0 ? 1 : 0;
    }

    public int kept(int letter) {
        if (!isLetter(letter)) {
            return BAD;
        }
        if (now.plan.place[letter] < 0) {
            return 1;
        }
        return now.edge == EDGE_ROUND && now.plan.keepsSum(letter) ? 1 : 0;
    }

    public int grows() {
        for (int letter = 0; letter < LETTERS; letter++) {
            if (now.plan.place[letter] >= 0 && !now.plan.staysSmall(letter)) {
                return 0;
            }
        }
        return 1;
    }

    // ---- checks

    public int tell(int step, int letter, boolean column, int i, long v) {
        if (!isStep(step) || !isLetter(letter) || i < 0 || i >= (column ? grid.wide : grid.high)) {
            return BAD;
        }
        if (v != UNTOLD && (v < -MOST_TOLD_SUM || v > MOST_TOLD_SUM)) {
            return BAD;
        }
        checks.keepSum(step, letter, column, i, v);
        return 0;
    }

    public int fails() {
        if (checks.toldSums() == 0) {
            return NO;
        }
        return checks.failing(reckoned(false, checks.step), grid);
    }

    public int least() {
        if (checks.toldSums() != grid.wide + grid.high || !checks.agree()) {
            return NO;
        }
        return checks.fewestCells(reckoned(false, checks.step), grid);
    }

    public int second(int step, int cell) {
        if (!isLaterStep(step) || !isCell(cell)) {
            return BAD;
        }
        Board hall = reckoned(false, step);
        int otherwise = 0;
        for (int letter = 0; letter < LETTERS; letter++) {
            if (hall.made(grid, now, step, cell, letter) != hall.number(step, cell, letter)) {
                otherwise |= 1 << letter;
            }
        }
        return otherwise;
    }

    public int put(int i, int v) {
        if (!isCell(i) || v < -MOST_NUMBER || v > MOST_NUMBER) {
            return BAD_NUMBER;
        }
        int was = checks.judged[i];
        checks.judged[i] = v;
        return was;
    }

    public int judge(int step, int letter) {
        if (!isLaterStep(step) || !isLetter(letter)) {
            return BAD;
        }
        Board hall = reckoned(false, step);
        for (int cell = 0; cell < grid.cells; cell++) {
            if (hall.made(grid, now, step, cell, letter) != checks.judged[cell]) {
                return cell;
            }
        }
        return NONE;
    }

    // ---- people

    public int pace(int person, int v) {
        if (!isPerson(person) || v < 1 || v > MOST_PACE) {
            return BAD;
        }
        int was = crew.paces[person];
        crew.paces[person] = v;
        forgetTimes();
        return was;
    }

    public int give(int cell, int person) {
        if (!isCell(cell) || !isPerson(person)) {
            return BAD;
        }
        int was = times.owners[cell];
        times.owners[cell] = person;
        times.restart();
        return was;
    }

    public int when(int step, int cell) {
        if (!isStep(step) || !isCellOrAll(cell)) {
            return BAD;
        }
        times.reach(grid, crew, step);
        return cell < 0 ? times.lastMinute(grid, step) : times.ended(step, cell);
    }

    public int slowest(int step) {
        if (!isLaterStep(step)) {
            return BAD;
        }
        times.reach(grid, crew, step);
        int last = times.lastMinute(grid, step);
        for (int cell = 0; cell < grid.cells; cell++) {
            if (times.ended(step, cell) == last) {
                return cell;
            }
        }
        return 0;
    }

    public int given(int q, int n, int cell) {
        if (q < 1 || q > MOST_SHARERS || !isStep(n) || !isCellOrAll(cell)) {
            return BAD;
        }
        if (grid.cells > MOST_SHARED_CELLS) {
            return NO;
        }
        share.find(grid, crew, q, n);
        return cell < 0 ? share.minute : share.owners[cell];
    }

    public int known(int cell, int minute) {
        if (!isCell(cell) || minute < 0 || minute > MOST_MINUTE) {
            return BAD;
        }
        times.reach(grid, crew, LAST_STEP);
        int step = 0;
        while (step < LAST_STEP && times.ended(step + 1, cell) <= minute) {
            step++;
        }
        return step;
    }

    public int coarse(int n, int letter, int e) {
        if (!isLaterStep(n) || !isLetter(letter) || e < 0 || e > MOST_TOLD_NUMBER) {
            return BAD;
        }
        if ((grid.wide & 1) != 0 || (grid.high & 1) != 0) {
            return NO;
        }
        reckonSmall(n);
        int off = 0;
        for (int cell = 0; cell < smallGrid.cells; cell++) {
            if (isOff(n, cell, letter, e)) {
                off++;
            }
        }
        return off;
    }

    public int keep() {
        if (stacked >= MOST_KEPT) {
            return FULL;
        }
        stack[stacked].copyFrom(now);
        stacked++;
        return stacked;
    }

    public int back() {
        if (stacked < 1) {
            return NO;
        }
        stacked--;
        now.copyFrom(stack[stacked]);
        reshape();
        return stacked;
    }

    public int count(int what) {
        switch (what) {
            case 0: return grid.cells;
            case 1: return reader.length;
            case 2: return now.plan.lines;
            case 3: return now.gaps(grid.cells);
            case 4: return now.slips;
            case 5: return stacked;
            case 6: return checks.toldSums();
            default: return BAD;
        }
    }

    // ---- what a number may be

    private static boolean isLetter(int letter) {
        return letter >= 0 && letter < LETTERS;
    }

    private static boolean isStep(int step) {
        return step >= 0 && step <= LAST_STEP;
    }

    private static boolean isLaterStep(int step) {
        return step >= 1 && step <= LAST_STEP;
    }

    private static boolean isTold(int v) {
        return v >= -MOST_TOLD_NUMBER && v <= MOST_TOLD_NUMBER;
    }

    private static boolean isPerson(int person) {
        return person >= 0 && person < MOST_PEOPLE;
    }

    private boolean isCell(int cell) {
        return cell >= 0 && cell < grid.cells && cell < MOST_CELLS;
    }

    private boolean isCellOrAll(int cell) {
        return cell == -1 || isCell(cell);
    }

    // ---- what has been reckoned, and what is reckoned no more

    private void reshape() {
        grid.shape(grid.wide, grid.high, now.edge);
        forgetNumbers();
        forgetTimes();
    }

    private void forgetNumbers() {
        rightBoard.restart();
        smallBoard.restart();
        marks.restart();
        forgetSlips();
    }

    /** The right numbers and the marks lean on no slip: they stay. */
    private void forgetSlips() {
        hallBoard.restart();
        otherBoard.restart();
    }

    private void forgetTimes() {
        times.restart();
        share.restart();
    }

    private Board reckoned(boolean right, int step) {
        Board board = right ? rightBoard : hallBoard;
        board.reach(grid, now, step);
        return board;
    }

    // ---- how far a slip spreads

    private void reckonWithout(int slip, int step) {
        if (otherBoard.without != slip) {
            otherBoard.without = slip;
            otherBoard.restart();
        }
        otherBoard.reach(grid, now, step);
        hallBoard.reach(grid, now, step);
    }

    private int otherwiseUpTo(int last) {
        int numbers = 0;
        for (int step = 1; step <= last; step++) {
            numbers += otherwiseIn(step);
        }
        return numbers;
    }

    private int lastOtherwise(int last) {
        for (int step = last; step >= 1; step--) {
            if (otherwiseIn(step) > 0) {
                return step;
            }
        }
        return NONE;
    }

    private int otherwiseIn(int step) {
        int numbers = 0;
        for (int cell = 0; cell < grid.cells; cell++) {
            for (int letter = 0; letter < LETTERS; letter++) {
                if (hallBoard.number(step, cell, letter) != otherBoard.number(step, cell, letter)) {
                    numbers++;
                }
            }
        }
        return numbers;
    }

    // ---- cells of four

    private void reckonSmall(int step) {
        if (smallBoard.done < 0) {
            smallGrid.shape(grid.wide / 2, grid.high / 2, now.edge);
            rightBoard.reach(grid, now, 0);
            for (int cell = 0; cell < smallGrid.cells; cell++) {
                for (int letter = 0; letter < LETTERS; letter++) {
                    smallBoard.set(0, cell, letter, meanOfFour(0, cell, letter));
                }
            }
            smallBoard.done = 0;
        }
        smallBoard.reach(smallGrid, now, step);
        rightBoard.reach(grid, now, step);
    }

    private int meanOfFour(int step, int smallCell, int letter) {
        int wide = smallGrid.wide;
        if (wide < 1) {
            return VOID;
        }
        int corner = (smallCell / wide) * 2 * grid.wide + (smallCell % wide) * 2;
        long total = 0;
        for (int part = 0; part < 4; part++) {
            int cell = corner + (part >> 1) * grid.wide + (part & 1);
            int number = rightBoard.number(step, cell, letter);
            if (number == VOID) {
                return VOID;
            }
            total += number;
        }
        return (int) Math.floorDiv(total, 4L);
    }

    private boolean isOff(int step, int smallCell, int letter, int e) {
        int mean = meanOfFour(step, smallCell, letter);
        int number = smallBoard.number(step, smallCell, letter);
        if (mean == VOID || number == VOID) {
            return true;
        }
        return Math.abs((long) number - mean) > e;
    }

    /** Cells, and what lies beside each: itself, then n, e, s and w of it. */
    private static final class Grid {
        int wide;
        int high;
        int cells;
        private final int[] near = new int[MOST_CELLS * SIDES];

        Grid(int w, int h) {
            shape(w, h, EDGE_ROUND);
        }

        void shape(int w, int h, int edge) {
            wide = Math.max(1, Math.min(MOST_SIDE, w));
            high = Math.max(1, Math.min(MOST_SIDE, h));
            cells = wide * high;
            for (int y = 0; y < high; y++) {
                for (int x = 0; x < wide; x++) {
                    int cell = wide * y + x;
                    near[cell * SIDES] = cell;
                    near[cell * SIDES + 1] = found(x, y - 1, cell, edge);
                    near[cell * SIDES + 2] = found(x + 1, y, cell, edge);
                    near[cell * SIDES + 3] = found(x, y + 1, cell, edge);
                    near[cell * SIDES + 4] = found(x - 1, y, cell, edge);
                }
            }
        }

        private int found(int x, int y, int from, int edge) {
            if (x >= 0 && x < wide && y >= 0 && y < high) {
                return wide * y + x;
            }
            if (edge == EDGE_SELF) {
                return from;
            }
            if (edge == EDGE_RIM) {
                return RIM_SIDE;
            }
            int roundX = x < 0 ? wide - 1 : x >= wide ? 0 : x;
            int roundY = y < 0 ? high - 1 : y >= high ? 0 : y;
            return wide * roundY + roundX;
        }

        /** The cell on a side of a cell, or RIM_SIDE. */
        int beside(int cell, int side) {
            int at = cell * SIDES + side;
            return at >= 0 && at < near.length ? near[at] : RIM_SIDE;
        }
    }

    /**
     * Lines for letters. The terms of all lines stand in one row; a name is its letter in the bits
     * 0 and 1, its side in the bits 2 to 4, and bit 5 where it means this step.
     */
    private static final class Plan {
        int lines;
        int used;
        /** All letters, those without a line first, then as the lines stand. */
        final int[] order = new int[LETTERS];
        final int[] place = new int[LETTERS];
        final int[] start = new int[LETTERS];
        final int[] terms = new int[LETTERS];
        final int[] divisor = new int[LETTERS];
        final boolean[] nearest = new boolean[LETTERS];
        final int[] factors = new int[MOST_TERMS];
        final int[] names = new int[MOST_TERMS];
        final int[] seconds = new int[MOST_TERMS];

        Plan() {
            clear();
        }

        void clear() {
            lines = 0;
            used = 0;
            for (int letter = 0; letter < LETTERS; letter++) {
                order[letter] = letter;
                place[letter] = -1;
                start[letter] = 0;
                terms[letter] = 0;
                divisor[letter] = 1;
                nearest[letter] = false;
            }
        }

        void takeAll(Plan from) {
            lines = from.lines;
            used = from.used;
            for (int letter = 0; letter < LETTERS; letter++) {
                order[letter] = from.order[letter];
                place[letter] = from.place[letter];
                start[letter] = from.start[letter];
                terms[letter] = from.terms[letter];
                divisor[letter] = from.divisor[letter];
                nearest[letter] = from.nearest[letter];
            }
            for (int term = 0; term < used && term < MOST_TERMS; term++) {
                factors[term] = from.factors[term];
                names[term] = from.names[term];
                seconds[term] = from.seconds[term];
            }
        }

        void addTerm(int factor, int name, int second) {
            if (used < MOST_TERMS) {
                factors[used] = factor;
                names[used] = name;
                seconds[used] = second;
                used++;
            }
        }

        /** From here on a name may mean the letter at this step. */
        void closeLine(int letter) {
            terms[letter] = used - start[letter];
            place[letter] = lines;
            lines++;
            int to = 0;
            for (int turn = 0; turn < LETTERS; turn++) {
                if (order[turn] != letter) {
                    order[to] = order[turn];
                    to++;
                }
            }
            order[LETTERS - 1] = letter;
        }

        int end(int letter) {
            return Math.min(MOST_TERMS, start[letter] + terms[letter]);
        }

        boolean hasProduct(int letter) {
            for (int term = start[letter]; term < end(letter); term++) {
                if (seconds[term] != NO_NAME) {
                    return true;
                }
            }
            return false;
        }

        boolean keepsSum(int letter) {
            int together = 0;
            for (int term = start[letter]; term < end(letter); term++) {
                if (letterOf(names[term]) != letter || isNow(names[term])) {
                    return false;
                }
                together += factors[term];
            }
            return together == divisor[letter] && !hasProduct(letter);
        }

        boolean staysSmall(int letter) {
            int together = 0;
            for (int term = start[letter]; term < end(letter); term++) {
                together += Math.abs(factors[term]);
            }
            return together <= divisor[letter] && !hasProduct(letter);
        }

        /** What a sum of terms makes. */
        int divided(int letter, long total) {
            long by = divisor[letter];
            if (by < 1 || total > MOST_SUM || total < -MOST_SUM) {
                return VOID;
            }
            long number = nearest[letter] ? Math.floorDiv(2 * total + by, 2 * by) : Math.floorDiv(total, by);
            return number > MOST_NUMBER || number < -MOST_NUMBER ? VOID : (int) number;
        }

        static int letterOf(int name) {
            return name & 3;
        }

        static int sideOf(int name) {
            return (name >> 2) & 7;
        }

        static boolean isNow(int name) {
            return (name & 32) != 0;
        }
    }

    /** THE TEXT, and how it is read. Each part that is read answers whether it may stand there. */
    private static final class Reader {
        private final int[] bytes = new int[MOST_BYTES];
        int length;
        final Plan plan = new Plan();
        private int here;
        private int wrong;
        private int value;

        void append(int b) {
            if (length >= 0 && length < MOST_BYTES) {
                bytes[length] = b;
                length++;
            }
        }

        /** Makes the plan of THE TEXT; the place of the first wrong byte, or NONE. */
        int read() {
            plan.clear();
            here = 0;
            for (int line = 0; line <= LETTERS && here < length; line++) {
                if (!readLine()) {
                    return wrong;
                }
            }
            return NONE;
        }

        private int ahead() {
            return here >= 0 && here < length && here < MOST_BYTES ? bytes[here] : -1;
        }

        private boolean refuse(int at) {
            wrong = at;
            return false;
        }

        private boolean pass(int sign) {
            if (ahead() != sign) {
                return false;
            }
            here++;
            return true;
        }

        private boolean readLine() {
            int letter = ahead() - 'a';
            if (!isLetter(letter) || plan.place[letter] >= 0) {
                return refuse(here);
            }
            here++;
            if (!pass('=')) {
                return refuse(here);
            }
            plan.start[letter] = plan.used;
            for (int term = 0; term < MOST_TERMS; term++) {
                if (term > 0 && ahead() != '+' && ahead() != '-') {
                    break;
                }
                if (!readTerm()) {
                    return false;
                }
            }
            if (pass('/')) {
                if (!readNumber(MOST_DIVISOR)) {
                    return false;
                }
                plan.divisor[letter] = value;
            }
            plan.nearest[letter] = pass('~');
            if (!pass(';')) {
                return refuse(here);
            }
            plan.closeLine(letter);
            return true;
        }

        private boolean readTerm() {
            int sign = ahead() == '-' ? -1 : 1;
            if (ahead() == '-' || ahead() == '+') {
                here++;
            }
            int factor = 1;
            if (isFigure()) {
                if (!readNumber(MOST_FACTOR)) {
                    return false;
                }
                factor = value;
            }
            if (!readName()) {
                return false;
            }
            int name = value;
            int second = NO_NAME;
            if (pass('.')) {
                if (!readName()) {
                    return false;
                }
                second = value;
            }
            plan.addTerm(sign * factor, name, second);
            return true;
        }

        private boolean isFigure() {
            return ahead() >= '0' && ahead() <= '9';
        }

        private boolean readNumber(int most) {
            int from = here;
            boolean zeroAhead = ahead() == '0';
            int number = 0;
            while (isFigure() && here < length) {
                number = Math.min(most + 1, number * 10 + ahead() - '0');
                here++;
            }
            value = number;
            return (here > from && !zeroAhead && number <= most) || refuse(from);
        }

        private boolean readName() {
            int from = here;
            int letter = ahead() - 'a';
            if (!isLetter(letter)) {
                return refuse(here);
            }
            here++;
            int side = sideAhead();
            if (side > 0) {
                here++;
            }
            value = letter | side << 2;
            if (pass('\'')) {
                value |= 32;
                return (side == 0 && plan.place[letter] >= 0) || refuse(from);
            }
            return true;
        }

        private int sideAhead() {
            switch (ahead()) {
                case 'n': return 1;
                case 'e': return 2;
                case 's': return 3;
                case 'w': return 4;
                default: return 0;
            }
        }
    }

    /** What is kept and brought back: a plan, first numbers, slips, the edge and the rims. */
    private static final class Setting {
        final Plan plan = new Plan();
        final int[] firsts = new int[MOST_CELLS * LETTERS];
        final int[] rims = new int[LETTERS];
        int edge;
        int slips;
        private final int[] slipSteps = new int[MOST_SLIPS];
        private final int[] slipCells = new int[MOST_SLIPS];
        private final int[] slipLetters = new int[MOST_SLIPS];
        private final int[] slipAmounts = new int[MOST_SLIPS];

        Setting() {
            clearFirsts();
        }

        void clearFirsts() {
            for (int i = 0; i < firsts.length; i++) {
                firsts[i] = GAP;
            }
        }

        void copyFrom(Setting from) {
            plan.takeAll(from.plan);
            for (int i = 0; i < firsts.length; i++) {
                firsts[i] = from.firsts[i];
            }
            for (int letter = 0; letter < LETTERS; letter++) {
                rims[letter] = from.rims[letter];
            }
            edge = from.edge;
            slips = from.slips;
            for (int i = 0; i < MOST_SLIPS; i++) {
                slipSteps[i] = from.slipSteps[i];
                slipCells[i] = from.slipCells[i];
                slipLetters[i] = from.slipLetters[i];
                slipAmounts[i] = from.slipAmounts[i];
            }
        }

        void addSlip(int step, int cell, int letter, int amount) {
            if (slips >= 0 && slips < MOST_SLIPS) {
                slipSteps[slips] = step;
                slipCells[slips] = cell;
                slipLetters[slips] = letter;
                slipAmounts[slips] = amount;
                slips++;
            }
        }

        /** A number with the slips of its place added, all but one. */
        int slipped(int number, int step, int cell, int letter, int without) {
            int result = number;
            for (int i = 0; i < slips && i < MOST_SLIPS; i++) {
                if (i == without || slipSteps[i] != step || slipCells[i] != cell || slipLetters[i] != letter) {
                    continue;
                }
                if (result == VOID) {
                    return VOID;
                }
                result += slipAmounts[i];
                if (result > MOST_NUMBER || result < -MOST_NUMBER) {
                    result = VOID;
                }
            }
            return result;
        }

        boolean isGap(int cell, int letter) {
            return firstAt(cell, letter) == GAP;
        }

        int firstAt(int cell, int letter) {
            int at = cell * LETTERS + letter;
            return at >= 0 && at < firsts.length ? firsts[at] : GAP;
        }

        int gaps(int cells) {
            int gaps = 0;
            for (int i = 0; i < cells * LETTERS && i < firsts.length; i++) {
                if (firsts[i] == GAP) {
                    gaps++;
                }
            }
            return gaps;
        }

        /** What a gap is filled with. */
        int filled(Grid grid, int cell, int letter) {
            int told = 0;
            int total = 0;
            for (int side = 1; side < SIDES; side++) {
                int near = grid.beside(cell, side);
                int number = near == RIM_SIDE ? rims[letter] : firstAt(near, letter);
                if (number != GAP) {
                    told++;
                    total += number;
                }
            }
            return told < 1 ? 0 : Math.floorDiv(total, told);
        }
    }

    /** Numbers of cells for all steps; they are reckoned as far as they are wanted. */
    private static final class Board {
        private final int room;
        private final boolean withSlips;
        private final int[] numbers;
        int without = -1;
        int done = -1;

        Board(int mostCells, boolean slips) {
            room = Math.max(1, Math.min(MOST_CELLS, mostCells));
            withSlips = slips;
            numbers = new int[(LAST_STEP + 1) * room * LETTERS];
        }

        void restart() {
            done = -1;
        }

        int number(int step, int cell, int letter) {
            int at = (step * room + cell) * LETTERS + letter;
            return at >= 0 && at < numbers.length ? numbers[at] : VOID;
        }

        void set(int step, int cell, int letter, int number) {
            int at = (step * room + cell) * LETTERS + letter;
            if (at >= 0 && at < numbers.length) {
                numbers[at] = number;
            }
        }

        void reach(Grid grid, Setting setting, int step) {
            if (done < 0) {
                takeFirsts(grid, setting);
                done = 0;
            }
            for (int next = done + 1; next <= step && next <= LAST_STEP; next++) {
                for (int cell = 0; cell < grid.cells; cell++) {
                    for (int turn = 0; turn < LETTERS; turn++) {
                        int letter = setting.plan.order[turn];
                        int number = made(grid, setting, next, cell, letter);
                        if (withSlips) {
                            number = setting.slipped(number, next, cell, letter, without);
                        }
                        set(next, cell, letter, number);
                    }
                }
                done = next;
            }
        }

        private void takeFirsts(Grid grid, Setting setting) {
            for (int cell = 0; cell < grid.cells; cell++) {
                for (int letter = 0; letter < LETTERS; letter++) {
                    boolean gap = setting.isGap(cell, letter);
                    set(0, cell, letter, gap ? setting.filled(grid, cell, letter) : setting.firstAt(cell, letter));
                }
            }
        }

        int made(Grid grid, Setting setting, int step, int cell, int letter) {
            Plan plan = setting.plan;
            if (plan.place[letter] < 0) {
                return number(step - 1, cell, letter);
            }
            long total = 0;
            int end = plan.end(letter);
            for (int term = plan.start[letter]; term < end; term++) {
                long one = termMade(grid, setting, term, step, cell);
                if (one == VOID_TERM) {
                    return VOID;
                }
                total += one;
            }
            return plan.divided(letter, total);
        }

        /** The product is looked at ahead of the factor: with it, it could be too large for a long. */
        private long termMade(Grid grid, Setting setting, int term, int step, int cell) {
            Plan plan = setting.plan;
            long product = named(grid, setting, plan.names[term], step, cell);
            if (product == VOID) {
                return VOID_TERM;
            }
            if (plan.seconds[term] != NO_NAME) {
                long second = named(grid, setting, plan.seconds[term], step, cell);
                if (second == VOID) {
                    return VOID_TERM;
                }
                product *= second;
            }
            if (Math.abs(product) > MOST_SUM) {
                return VOID_TERM;
            }
            product *= plan.factors[term];
            return Math.abs(product) > MOST_SUM ? VOID_TERM : product;
        }

        private int named(Grid grid, Setting setting, int name, int step, int cell) {
            int letter = Plan.letterOf(name);
            int near = grid.beside(cell, Plan.sideOf(name));
            if (near == RIM_SIDE) {
                return setting.rims[letter];
            }
            return number(Plan.isNow(name) ? step : step - 1, near, letter);
        }

        long rowSum(Grid grid, int step, int letter, int y) {
            long total = 0;
            for (int x = 0; x < grid.wide; x++) {
                total += counted(step, grid.wide * y + x, letter);
            }
            return total;
        }

        long columnSum(Grid grid, int step, int letter, int x) {
            long total = 0;
            for (int y = 0; y < grid.high; y++) {
                total += counted(step, grid.wide * y + x, letter);
            }
            return total;
        }

        private int counted(int step, int cell, int letter) {
            int number = number(step, cell, letter);
            return number == VOID ? 0 : number;
        }
    }

    /** What leans on a filled gap: for each step and cell the letters as bits. */
    private static final class Marks {
        private final int[] bits = new int[(LAST_STEP + 1) * MOST_CELLS];
        private int done = -1;

        void restart() {
            done = -1;
        }

        boolean has(int step, int cell, int letter) {
            int at = step * MOST_CELLS + cell;
            return at >= 0 && at < bits.length && (bits[at] >> letter & 1) != 0;
        }

        void reach(Grid grid, Setting setting, int step) {
            for (int next = done + 1; next <= step && next <= LAST_STEP; next++) {
                for (int cell = 0; cell < grid.cells && cell < MOST_CELLS; cell++) {
                    int at = next * MOST_CELLS + cell;
                    bits[at] = 0;
                    if (next == 0) {
                        markGaps(setting, cell);
                    } else {
                        markCell(grid, setting, next, cell);
                    }
                }
                done = next;
            }
        }

        private void mark(int step, int cell, int letter) {
            int at = step * MOST_CELLS + cell;
            if (at >= 0 && at < bits.length) {
                bits[at] |= 1 << letter;
            }
        }

        private void markGaps(Setting setting, int cell) {
            for (int letter = 0; letter < LETTERS; letter++) {
                if (setting.isGap(cell, letter)) {
                    mark(0, cell, letter);
                }
            }
        }

        private void markCell(Grid grid, Setting setting, int step, int cell) {
            for (int turn = 0; turn < LETTERS; turn++) {
                int letter = setting.plan.order[turn];
                if (leans(grid, setting.plan, letter, step, cell)) {
                    mark(step, cell, letter);
                }
            }
        }

        private boolean leans(Grid grid, Plan plan, int letter, int step, int cell) {
            if (plan.place[letter] < 0) {
                return has(step - 1, cell, letter);
            }
            for (int term = plan.start[letter]; term < plan.end(letter); term++) {
                if (isMarked(grid, plan.names[term], step, cell)) {
                    return true;
                }
                if (plan.seconds[term] != NO_NAME && isMarked(grid, plan.seconds[term], step, cell)) {
                    return true;
                }
            }
            return false;
        }

        private boolean isMarked(Grid grid, int name, int step, int cell) {
            int near = grid.beside(cell, Plan.sideOf(name));
            return near != RIM_SIDE && has(Plan.isNow(name) ? step : step - 1, near, Plan.letterOf(name));
        }
    }

    /** Told sums of one step and letter, and the row that is judged. */
    private static final class Checks {
        int step;
        private int letter;
        private final long[] rows = new long[MOST_SIDE];
        private final long[] columns = new long[MOST_SIDE];
        private final long[] lacks = new long[2 * MOST_SIDE];
        private final int[] parts = new int[1 << (2 * MOST_SIDE)];
        final int[] judged = new int[MOST_CELLS];

        Checks() {
            clearTold();
        }

        void clearTold() {
            for (int i = 0; i < MOST_SIDE; i++) {
                rows[i] = UNTOLD;
                columns[i] = UNTOLD;
            }
        }

        void keepSum(int ofStep, int ofLetter, boolean column, int i, long v) {
            if (ofStep != step || ofLetter != letter) {
                clearTold();
                step = ofStep;
                letter = ofLetter;
            }
            if (i >= 0 && i < MOST_SIDE) {
                if (column) {
                    columns[i] = v;
                } else {
                    rows[i] = v;
                }
            }
        }

        int toldSums() {
            int told = 0;
            for (int i = 0; i < MOST_SIDE; i++) {
                told += (rows[i] != UNTOLD ? 1 : 0) + (columns[i] != UNTOLD ? 1 : 0);
            }
            return told;
        }

        /** Whether rows together are as columns together (asked only where all are told). */
        boolean agree() {
            long more = 0;
            for (int i = 0; i < MOST_SIDE; i++) {
                more += (rows[i] != UNTOLD ? rows[i] : 0) - (columns[i] != UNTOLD ? columns[i] : 0);
            }
            return more == 0;
        }

        int failing(Board hall, Grid grid) {
            int failing = 0;
            for (int y = 0; y < grid.high && y < MOST_SIDE; y++) {
                if (rows[y] != UNTOLD && rows[y] != hall.rowSum(grid, step, letter, y)) {
                    failing |= 1 << y;
                }
            }
            for (int x = 0; x < grid.wide && x < MOST_SIDE; x++) {
                if (columns[x] != UNTOLD && columns[x] != hall.columnSum(grid, step, letter, x)) {
                    failing |= 1 << (MOST_SIDE + x);
                }
            }
            return failing;
        }

        /**
         * Changed cells tie rows and columns together; a tied part of k rows and columns comes right
         * by k - 1 cells if its rows lack as much as its columns. So the more such parts, the fewer
         * cells. A part of rows alone (or of columns alone) needs one more, and saves nothing.
         */
        int fewestCells(Board hall, Grid grid) {
            int lacking = 0;
            for (int y = 0; y < grid.high && y < MOST_SIDE; y++) {
                lacking = addLack(lacking, rows[y] - hall.rowSum(grid, step, letter, y));
            }
            int lackingRows = lacking;
            for (int x = 0; x < grid.wide && x < MOST_SIDE; x++) {
                lacking = addLack(lacking, hall.columnSum(grid, step, letter, x) - columns[x]);
            }
            return lacking - mostParts(lacking, (1 << lackingRows) - 1);
        }

        private int addLack(int lacking, long lack) {
            if (lack == 0 || lacking >= lacks.length) {
                return lacking;
            }
            lacks[lacking] = lack;
            return lacking + 1;
        }

        private int mostParts(int lacking, int rowBits) {
            int all = 1 << lacking;
            findEvenSets(all);
            for (int set = 1; set < all && set < parts.length; set++) {
                if (parts[set] >= 0) {
                    parts[set] = partsOf(set, rowBits);
                }
            }
            return all <= parts.length ? Math.max(0, parts[all - 1]) : 0;
        }

        /** Goes from set to set by one member in or out, so that one sum serves for all of them. */
        private void findEvenSets(int all) {
            long total = 0;
            int set = 0;
            parts[0] = 0;
            for (int turn = 1; turn < all; turn++) {
                int member = Integer.numberOfTrailingZeros(turn);
                if (member < lacks.length) {
                    set ^= 1 << member;
                    total += (set >> member & 1) != 0 ? lacks[member] : -lacks[member];
                }
                if (set < parts.length) {
                    parts[set] = total == 0 ? 0 : -1;
                }
            }
        }

        private int partsOf(int set, int rowBits) {
            int lowest = set & -set;
            int most = 0;
            for (int part = set; part > 0; part = (part - 1) & set) {
                if ((part & lowest) != 0 && parts[part] >= 0) {
                    boolean mixed = (part & rowBits) != 0 && (part & ~rowBits) != 0;
                    most = Math.max(most, (mixed ? 1 : 0) + parts[set ^ part]);
                }
            }
            return most;
        }
    }

    /** How fast people are, and how fast notes walk between them. */
    private static final class Crew {
        final int[] paces = new int[MOST_PEOPLE];
        int walk = 1;

        Crew() {
            for (int person = 0; person < MOST_PEOPLE; person++) {
                paces[person] = 5;
            }
        }

        int paceOf(int person) {
            return person >= 0 && person < MOST_PEOPLE ? paces[person] : 1;
        }
    }

    /** Whose each cell is, and when each of its steps is ended. */
    private static final class Times {
        final int[] owners = new int[MOST_CELLS];
        private final int[] ends = new int[(LAST_STEP + 1) * MOST_CELLS];
        private final int[] free = new int[MOST_PEOPLE];
        private final int[] loads = new int[MOST_PEOPLE];
        private int done;

        void restart() {
            done = 0;
            for (int person = 0; person < MOST_PEOPLE; person++) {
                free[person] = 0;
            }
        }

        void giveAllToFirst() {
            for (int cell = 0; cell < MOST_CELLS; cell++) {
                owners[cell] = 0;
            }
            restart();
        }

        /** Step 0 is there at minute 0: its ends are never written. */
        int ended(int step, int cell) {
            int at = step * MOST_CELLS + cell;
            return at >= 0 && at < ends.length ? ends[at] : 0;
        }

        void reach(Grid grid, Crew crew, int step) {
            for (int next = done + 1; next <= step && next <= LAST_STEP; next++) {
                work(grid, crew, next);
                done = next;
            }
        }

        private void work(Grid grid, Crew crew, int step) {
            for (int cell = 0; cell < grid.cells && cell < MOST_CELLS; cell++) {
                int person = owners[cell];
                if (person < 0 || person >= MOST_PEOPLE) {
                    continue;
                }
                int begun = free[person];
                if (step > 1) {
                    begun = Math.max(begun, notesCome(grid, crew, step, cell));
                }
                int end = begun + crew.paceOf(person);
                ends[step * MOST_CELLS + cell] = end;
                free[person] = end;
            }
        }

        private int notesCome(Grid grid, Crew crew, int step, int cell) {
            int come = 0;
            for (int side = 1; side < SIDES; side++) {
                int near = grid.beside(cell, side);
                if (near >= 0 && near < MOST_CELLS) {
                    int walk = owners[near] == owners[cell] ? 0 : crew.walk;
                    come = Math.max(come, ended(step - 1, near) + walk);
                }
            }
            return come;
        }

        int lastMinute(Grid grid, int step) {
            int last = 0;
            for (int cell = 0; cell < grid.cells; cell++) {
                last = Math.max(last, ended(step, cell));
            }
            return last;
        }

        /** Cells given by the figures of a code, cell 0 by the highest. */
        void deal(int code, int people, int cells) {
            int rest = code;
            for (int cell = Math.min(cells, MOST_CELLS) - 1; cell >= 0; cell--) {
                owners[cell] = people < 1 ? 0 : rest % people;
                rest = people < 1 ? 0 : rest / people;
            }
            restart();
        }

        /** Whether a step is ended ahead of a minute; given up as soon as it can't be. */
        boolean endsAhead(Grid grid, Crew crew, int step, int minute) {
            addLoads(grid, crew);
            for (int next = 0; next < step; next++) {
                if (isTooSlow(step - next, minute)) {
                    return false;
                }
                reach(grid, crew, next + 1);
            }
            return lastMinute(grid, step) < minute;
        }

        private void addLoads(Grid grid, Crew crew) {
            for (int person = 0; person < MOST_PEOPLE; person++) {
                loads[person] = 0;
            }
            for (int cell = 0; cell < grid.cells && cell < MOST_CELLS; cell++) {
                int person = owners[cell];
                if (person >= 0 && person < MOST_PEOPLE) {
                    loads[person] += crew.paceOf(person);
                }
            }
        }

        private boolean isTooSlow(int stepsLeft, int minute) {
            for (int person = 0; person < MOST_PEOPLE; person++) {
                if (free[person] + stepsLeft * loads[person] >= minute) {
                    return true;
                }
            }
            return false;
        }
    }

    /** Cells given so that a step ends soonest; found once, and again when people or the sky change. */
    private static final class Share {
        private static final int NO_END = 1000000;

        final int[] owners = new int[MOST_CELLS];
        int minute;
        private final Times trial = new Times();
        private int people;
        private int step;

        void restart() {
            people = 0;
        }

        /** In the order of codes the first of several that end alike stays. */
        void find(Grid grid, Crew crew, int q, int n) {
            if (people == q && step == n) {
                return;
            }
            people = q;
            step = n;
            minute = NO_END;
            int codes = 1;
            for (int cell = 0; cell < grid.cells && cell < MOST_SHARED_CELLS; cell++) {
                codes *= q;
            }
            for (int code = 0; code < codes; code++) {
                trial.deal(code, q, grid.cells);
                if (trial.endsAhead(grid, crew, n, minute)) {
                    take(grid);
                }
            }
        }

        private void take(Grid grid) {
            minute = trial.lastMinute(grid, step);
            for (int cell = 0; cell < grid.cells && cell < MOST_CELLS; cell++) {
                owners[cell] = trial.owners[cell];
            }
        }
    }
}
