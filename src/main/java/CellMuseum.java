import java.util.Arrays;

/** A museum of cellular patterns. The project's document says, promise by promise, what each call answers. */
public final class CellMuseum {
    public static final int BAD = -1, NOT = -2, FULL = -3;

    private static final int MOST_RULES = 16;
    private static final int MOST_FIELDS = 8;
    private static final int MOST_GRIDS = 8;
    private static final int MOST_SEARCHES = 30;
    private static final int FAULTS_FROM = -10;
    private static final int LEAST_PLACE = -128;
    private static final int GREATEST_PLACE = 127;

    // The neighbourhood of n cells is the first n of these: the document's 4, the two that make 6, the two that make 8.
    private static final int[] NEIGHBOUR_X = {0, 0, -1, 1, -1, 1, 1, -1};
    private static final int[] NEIGHBOUR_Y = {-1, 1, 0, 0, -1, 1, -1, 1};

    private final Tape tape;
    private final RuleReader ruleReader;
    private final RunReader runReader;
    private final Balance balance;
    private final Rule[] rules;
    private int ruleCount;
    private final Field[] fields;
    private int fieldCount;
    private final Grid[] grids;
    private int gridCount;
    private final Stepper stepper;
    private final Field trial;
    private final Squares squares;
    private final FieldText fieldText;
    private final Search search;
    private int searchCount;
    private int shiftX;
    private int shiftY;

    public CellMuseum() {
        tape = new Tape();
        ruleReader = new RuleReader();
        runReader = new RunReader();
        balance = new Balance();
        rules = new Rule[MOST_RULES];
        fields = new Field[MOST_FIELDS];
        grids = new Grid[MOST_GRIDS];
        stepper = new Stepper();
        trial = new Field();
        squares = new Squares();
        fieldText = new FieldText();
        search = new Search();
    }

    // ---- tape and rules

    public int feed(int a, int b, int c, int d, int e) {
        if (tape.size() + 20 > Tape.MOST) {
            return FULL;
        }
        tape.append(a);
        tape.append(b);
        tape.append(c);
        tape.append(d);
        tape.append(e);
        return tape.size();
    }

    public int end(int n) {
        if (n < 0 || n > tape.size()) {
            return BAD;
        }
        tape.keep(n);
        return n;
    }

    public int rule() {
        int answer = makeRule();
        tape.keep(0);
        return answer;
    }

    private int makeRule() {
        if (ruleCount >= MOST_RULES) {
            return FULL;
        }
        int fault = ruleReader.faultOf(tape);
        if (fault >= 0) {
            return FAULTS_FROM - fault;
        }
        Rule rule = new Rule(tape, ruleReader);
        rule.weigh(balance);
        rules[ruleCount] = rule;
        ruleCount++;
        return ruleCount - 1;
    }

    public int ruleByte(int r, int i) {
        Rule rule = ruleAt(r);
        return rule == null ? BAD : rule.byteAt(i);
    }

    private Rule ruleAt(int r) {
        return r >= 0 && r < ruleCount && r < rules.length ? rules[r] : null;
    }

    private Field fieldAt(int f) {
        return f >= 0 && f < fieldCount && f < fields.length ? fields[f] : null;
    }

    private Grid gridAt(int g) {
        return g >= 0 && g < gridCount && g < grids.length ? grids[g] : null;
    }

    private static boolean isPlace(int x, int y) {
        return x >= LEAST_PLACE && x <= GREATEST_PLACE && y >= LEAST_PLACE && y <= GREATEST_PLACE;
    }

    // ---- fields

    public int field(int r) {
        Rule rule = ruleAt(r);
        if (rule == null) {
            return BAD;
        }
        if (!rule.keepsVoid()) {
            return NOT;
        }
        if (fieldCount >= MOST_FIELDS) {
            return FULL;
        }
        Field field = fields[fieldCount];
        if (field == null) {
            field = new Field();
            fields[fieldCount] = field;
        }
        field.begin(rule, r);
        fieldCount++;
        return fieldCount - 1;
    }

    public int put(int f, int x, int y, int v) {
        Field field = fieldAt(f);
        if (field == null || !isPlace(x, y) || v < 0 || v > 1) {
            return BAD;
        }
        return field.change(x - LEAST_PLACE, y - LEAST_PLACE, v);
    }

    public int at(int f, int x, int y) {
        Field field = fieldAt(f);
        if (field == null || !isPlace(x, y)) {
            return BAD;
        }
        return field.look(x - LEAST_PLACE, y - LEAST_PLACE);
    }

    public int read(int f, int x, int y) {
        int answer = readRuns(f, x, y);
        tape.keep(0);
        return answer;
    }

    private int readRuns(int f, int x, int y) {
        Field field = fieldAt(f);
        if (field == null || !isPlace(x, y)) {
            return BAD;
        }
        int fault = runReader.faultOf(tape);
        if (fault >= 0) {
            return FAULTS_FROM - fault;
        }
        int column = x - LEAST_PLACE;
        int row = y - LEAST_PLACE;
        if (!runReader.fits(tape, column, row)) {
            return NOT;
        }
        return runReader.paint(tape, field, column, row);
    }

    public int textByte(int f, int i) {
        Field field = fieldAt(f);
        return field == null ? BAD : fieldText.byteOf(field, i);
    }

    public int steps(int f, int n) {
        Field field = fieldAt(f);
        if (field == null || n < 0 || n > 64) {
            return BAD;
        }
        return advance(field, n);
    }

    public int jump(int f, int k) {
        Field field = fieldAt(f);
        if (field == null || k < 0 || k > 6) {
            return BAD;
        }
        return advance(field, 1 << k);
    }

    private int advance(Field field, int n) {
        if (!field.hasRoomFor(n)) {
            return NOT;
        }
        for (int k = 0; k < n; k++) {
            stepper.step(field);
        }
        return field.age(n);
    }

    public int about(int f, int what) {
        Field field = fieldAt(f);
        if (field == null) {
            return BAD;
        }
        switch (what) {
            case 0:
                return field.alive;
            case 1:
                return placeOf(field, field.left);
            case 2:
                return placeOf(field, field.top);
            case 3:
                return placeOf(field, field.right);
            case 4:
                return placeOf(field, field.bottom);
            case 5:
                return field.generation;
            case 6:
                return field.ruleNumber;
            case 7:
                return squares.different(field);
            default:
                return BAD;
        }
    }

    private static int placeOf(Field field, int edge) {
        return field.alive == 0 ? 0 : edge + LEAST_PLACE;
    }

    public int period(int f, int most) {
        Field field = fieldAt(f);
        if (field == null || most < 1 || most > 60) {
            return BAD;
        }
        if (!field.hasRoomFor(most)) {
            return NOT;
        }
        trial.copyFrom(field);
        for (int p = 1; p <= most; p++) {
            stepper.step(trial);
            if (trial.isMovedFrom(field)) {
                shiftX = trial.left - field.left;
                shiftY = trial.top - field.top;
                return p;
            }
        }
        return 0;
    }

    public int shift(int axis) {
        if (axis == 0) {
            return shiftX;
        }
        return axis == 1 ? shiftY : BAD;
    }

    public int congruent(int f, int g) {
        Field one = fieldAt(f);
        Field other = fieldAt(g);
        if (one == null || other == null) {
            return BAD;
        }
        if (one.alive != other.alive) {
            return 0;
        }
        for (int turn = 0; turn < 8; turn++) {
            if (one.isTurned(other, turn)) {
                return 1;
            }
        }
        return 0;
    }

    public int empty(int f) {
        Field field = fieldAt(f);
        if (field == null) {
            return BAD;
        }
        int were = field.alive;
        field.clear();
        return were;
    }

    // ---- searches

    public int still(int r, int rows, int columns) {
        Rule rule = ruleAt(r);
        if (rule == null || !isBox(rows, columns, 0, 16)) {
            return BAD;
        }
        if (!maySearch(rule)) {
            return whyNoSearch(rule);
        }
        searchCount++;
        return search.findStill(rule, rows, columns);
    }

    public int oscillators(int r, int rows, int columns, int p) {
        Rule rule = ruleAt(r);
        if (rule == null || !isBox(rows, columns, 0, 12) || p < 2 || p > 6) {
            return BAD;
        }
        if (!maySearch(rule)) {
            return whyNoSearch(rule);
        }
        searchCount++;
        return search.findOscillators(rule, rows, columns, p);
    }

    public int ancestors(int r, int rows, int columns, int pattern) {
        Rule rule = ruleAt(r);
        if (rule == null || !isBox(rows, columns, 2, 16) || pattern < 0 || pattern >= 1 << rows * columns) {
            return BAD;
        }
        if (!maySearch(rule)) {
            return whyNoSearch(rule);
        }
        searchCount++;
        return search.findAncestors(rule, rows, columns, pattern, Search.MOST_PATTERNS);
    }

    public int garden(int r, int rows, int columns) {
        Rule rule = ruleAt(r);
        if (rule == null || !isBox(rows, columns, 2, 16)) {
            return BAD;
        }
        if (!maySearch(rule)) {
            return whyNoSearch(rule);
        }
        searchCount++;
        return search.findGarden(rule, rows, columns);
    }

    public int found(int i) {
        return i >= 0 && i < search.hits ? search.hitAt(i) : BAD;
    }

    private static boolean isBox(int rows, int columns, int rim, int most) {
        return rows >= 1 && rows <= 16 && columns >= 1 && columns <= 16 && (rows + rim) * (columns + rim) <= most;
    }

    private boolean maySearch(Rule rule) {
        return rule.keepsVoid() && searchCount < MOST_SEARCHES;
    }

    private static int whyNoSearch(Rule rule) {
        return rule.keepsVoid() ? FULL : NOT;
    }

    // ---- grids

    public int grid(int r, int rows, int columns) {
        Rule rule = ruleAt(r);
        if (rule == null || !isEvenSide(rows) || !isEvenSide(columns)) {
            return BAD;
        }
        if (!rule.hasBlocks()) {
            return NOT;
        }
        if (gridCount >= MOST_GRIDS) {
            return FULL;
        }
        Grid grid = grids[gridCount];
        if (grid == null) {
            grid = new Grid();
            grids[gridCount] = grid;
        }
        grid.begin(rule, rows, columns);
        gridCount++;
        return gridCount - 1;
    }

    private static boolean isEvenSide(int n) {
        return n >= 2 && n <= Grid.MOST_SIDE && n % 2 == 0;
    }

    public int set(int g, int i, int j, int v) {
        Grid grid = gridAt(g);
        if (grid == null || !grid.hasCell(i, j) || !grid.hasState(v)) {
            return BAD;
        }
        return grid.change(i, j, v);
    }

    public int cell(int g, int i, int j) {
        Grid grid = gridAt(g);
        if (grid == null || !grid.hasCell(i, j)) {
            return BAD;
        }
        return grid.look(i, j);
    }

    public int fill(int g, int seed, int share) {
        Grid grid = gridAt(g);
        if (grid == null || share < 0 || share > 100) {
            return BAD;
        }
        return grid.scatter(seed, share);
    }

    public int go(int g, int n) {
        Grid grid = gridAt(g);
        if (grid == null || n == 0 || n < -1000 || n > 1000) {
            return BAD;
        }
        if (n > 0) {
            return grid.forward(n);
        }
        return grid.canGoBack(-n) ? grid.back(-n) : NOT;
    }

    public int amount(int g, int v) {
        Grid grid = gridAt(g);
        if (grid == null || !grid.hasState(v)) {
            return BAD;
        }
        return grid.tally(v);
    }

    public int reversible(int r) {
        Rule rule = ruleAt(r);
        if (rule == null) {
            return BAD;
        }
        if (!rule.hasBlocks()) {
            return NOT;
        }
        return rule.isReversible() ? 1 : 0;
    }

    public int clash(int r, int which) {
        Rule rule = ruleAt(r);
        if (rule == null || which < 0 || which > 1) {
            return BAD;
        }
        if (!rule.hasBlocks() || rule.isReversible()) {
            return NOT;
        }
        return which == 0 ? rule.clashLow : rule.clashHigh;
    }

    public int weights(int r) {
        Rule rule = ruleAt(r);
        if (rule == null) {
            return BAD;
        }
        return rule.hasBlocks() ? rule.basisSize : NOT;
    }

    public int weight(int r, int k, int v) {
        Rule rule = ruleAt(r);
        return rule == null ? 0 : rule.weightOf(k, v);
    }

    public int count(int what) {
        switch (what) {
            case 0:
                return ruleCount;
            case 1:
                return fieldCount;
            case 2:
                return gridCount;
            case 3:
                return searchCount;
            case 4:
                return search.hits;
            case 5:
                return tape.size();
            default:
                return BAD;
        }
    }

    public int remove(int kind) {
        if (kind == 1) {
            if (fieldCount == 0) {
                return NOT;
            }
            fieldCount--;
            return fieldCount;
        }
        if (kind == 2) {
            if (gridCount == 0) {
                return NOT;
            }
            gridCount--;
            return gridCount;
        }
        return BAD;
    }

    /** The bytes that are fed. */
    private static final class Tape {
        static final int MOST = 2000;

        private final byte[] bytes = new byte[MOST];
        private int length;

        int size() {
            return length;
        }

        void keep(int n) {
            if (n >= 0 && n < length) {
                length = n;
            }
        }

        void append(int four) {
            for (int shift = 24; shift >= 0 && length < bytes.length; shift -= 8) {
                bytes[length] = (byte) (four >>> shift);
                length++;
            }
        }

        /** -1 where there is no byte, which is none of any text. */
        int byteAt(int i) {
            return i >= 0 && i < length ? bytes[i] & 255 : -1;
        }

        byte[] copy() {
            return Arrays.copyOf(bytes, length);
        }
    }

    /** Reads the tape as the text of a rule; what it has read stands in its fields. */
    private static final class RuleReader {
        private int neighbours;
        private int born;
        private int stays;
        private int states;
        private int place;

        /** The place of the fault; -1 if there is none. */
        int faultOf(Tape tape) {
            neighbours = 0;
            born = 0;
            stays = 0;
            states = 0;
            place = 0;
            boolean whole = tape.byteAt(0) == 'B' ? takeCounts(tape) : takeBlocks(tape);
            return whole && place == tape.size() ? -1 : place;
        }

        private boolean take(Tape tape, char due) {
            if (tape.byteAt(place) != due) {
                return false;
            }
            place++;
            return true;
        }

        private boolean takeCounts(Tape tape) {
            if (!take(tape, 'B')) {
                return false;
            }
            born = takeSet(tape);
            if (!take(tape, '/') || !take(tape, 'S')) {
                return false;
            }
            stays = takeSet(tape);
            if (!take(tape, '/')) {
                return false;
            }
            neighbours = neighboursOf(tape.byteAt(place));
            if (neighbours == 0 || (born | stays) >> neighbours + 1 != 0) {
                return false;
            }
            place++;
            return true;
        }

        private int takeSet(Tape tape) {
            int numbers = 0;
            int least = 0;
            while (least <= 8) {
                int digit = tape.byteAt(place) - '0';
                if (digit < least || digit > 8) {
                    return numbers;
                }
                numbers |= 1 << digit;
                least = digit + 1;
                place++;
            }
            return numbers;
        }

        private static int neighboursOf(int letter) {
            switch (letter) {
                case 'M':
                    return 8;
                case 'V':
                    return 4;
                case 'X':
                    return 6;
                default:
                    return 0;
            }
        }

        private boolean takeBlocks(Tape tape) {
            if (!take(tape, 'K')) {
                return false;
            }
            int told = tape.byteAt(place) - '0';
            if (told < 2 || told > 4) {
                return false;
            }
            states = told;
            place++;
            int digits = 4 * states * states * states * states;
            for (int k = 0; k < digits; k++) {
                int digit = tape.byteAt(place) - '0';
                if (digit < 0 || digit >= states) {
                    return false;
                }
                place++;
            }
            return true;
        }
    }

    /** A count rule (states is 0) or a block rule (neighbours is 0). */
    private static final class Rule {
        private final byte[] text;
        private final int neighbours;
        private final int born;
        private final int stays;
        private final int states;
        private final int[] becomes;
        private final int[] origin;
        private final int clashLow;
        private final int clashHigh;
        private final int[] basis;
        private int basisSize;

        /** The tape is one in which the reader has found no fault. */
        Rule(Tape tape, RuleReader reader) {
            text = tape.copy();
            neighbours = reader.neighbours;
            born = reader.born;
            stays = reader.stays;
            states = reader.states;
            int blocks = states * states * states * states;
            becomes = new int[blocks];
            origin = new int[blocks];
            for (int n = 0; n < blocks; n++) {
                becomes[n] = numberAt(tape, 2 + 4 * n, states);
                origin[n] = -1;
            }
            int low = -1;
            int high = -1;
            // From above, so that the last clash is that of the least block, and its other block the least greater one.
            for (int n = blocks - 1; n >= 0; n--) {
                int image = becomes[n];
                if (image < 0 || image >= blocks) {
                    continue;
                }
                if (origin[image] >= 0) {
                    low = n;
                    high = origin[image];
                }
                origin[image] = n;
            }
            clashLow = low;
            clashHigh = high;
            basis = new int[states * states];
        }

        /** Not done by the constructor, which hands out nothing of a rule that is not yet made. */
        void weigh(Balance balance) {
            basisSize = balance.solve(becomes, states, basis);
        }

        private static int numberAt(Tape tape, int place, int states) {
            int number = 0;
            for (int k = 0; k < 4; k++) {
                number = number * states + tape.byteAt(place + k) - '0';
            }
            return number;
        }

        int byteAt(int i) {
            return i >= 0 && i < text.length ? text[i] & 255 : 0;
        }

        boolean hasBlocks() {
            return states > 0;
        }

        /** A count rule by which nothing is born where nothing is near: what fields and searches ask for. */
        boolean keepsVoid() {
            return neighbours > 0 && (born & 1) == 0;
        }

        boolean isReversible() {
            return clashLow < 0;
        }

        /** 0 if there is no such weight. */
        int weightOf(int k, int v) {
            if (k < 0 || k >= basisSize || v < 0 || v >= states) {
                return 0;
            }
            int i = k * states + v;
            return i < basis.length ? basis[i] : 0;
        }
    }

    /** Solves for the conserved weights of a block rule, in whole numbers. */
    private static final class Balance {
        private static final int MOST_STATES = 4;

        // Row p is an equation whose last state that counts is p; there is none while its number for p is 0.
        private final long[][] equations = new long[MOST_STATES][MOST_STATES];
        private final long[] change = new long[MOST_STATES];

        /** Writes the basis row by row: how many rows. */
        int solve(int[] becomes, int states, int[] basis) {
            if (states < 2 || states > MOST_STATES || basis.length < states * states) {
                return 0;
            }
            for (int p = 0; p < MOST_STATES; p++) {
                Arrays.fill(equations[p], 0L);
            }
            for (int n = 0; n < becomes.length; n++) {
                Arrays.fill(change, 0L);
                tallyStates(n, states, 1);
                tallyStates(becomes[n], states, -1);
                demand(states);
            }
            reduce(states);
            int rows = 0;
            for (int leading = 0; leading < states; leading++) {
                if (!isHeld(leading)) {
                    writeRow(leading, states, basis, rows * states);
                    rows++;
                }
            }
            return rows;
        }

        private boolean isHeld(int p) {
            return equations[p][p] != 0;
        }

        private void tallyStates(int block, int states, int by) {
            if (states < 2 || states > MOST_STATES || block < 0) {
                return;
            }
            int rest = block;
            for (int k = 0; k < 4; k++) {
                change[rest % states] += by;
                rest /= states;
            }
        }

        /** From the last state to the first, so that the states left without an equation are the leading ones. */
        private void demand(int states) {
            for (int p = states - 1; p >= 0; p--) {
                if (change[p] == 0) {
                    continue;
                }
                if (!isHeld(p)) {
                    System.arraycopy(change, 0, equations[p], 0, MOST_STATES);
                    return;
                }
                cancel(change, equations[p], p);
                shorten(change);
            }
        }

        private void reduce(int states) {
            for (int p = states - 1; p >= 0; p--) {
                for (int q = p - 1; q >= 0; q--) {
                    if (isHeld(q) && equations[p][q] != 0) {
                        cancel(equations[p], equations[q], q);
                        shorten(equations[p]);
                    }
                }
            }
        }

        private static void cancel(long[] row, long[] by, int column) {
            long mine = row[column];
            long its = by[column];
            for (int c = 0; c < MOST_STATES; c++) {
                row[c] = row[c] * its - by[c] * mine;
            }
        }

        private void writeRow(int leading, int states, int[] basis, int from) {
            long whole = 1;
            for (int p = leading + 1; p < states; p++) {
                if (isHeld(p)) {
                    whole *= Math.abs(equations[p][p]);
                }
            }
            Arrays.fill(change, 0L);
            change[leading] = whole;
            for (int p = leading + 1; p < states; p++) {
                long divisor = equations[p][p];
                if (divisor != 0) {
                    change[p] = -equations[p][leading] * (whole / divisor);
                }
            }
            shorten(change);
            for (int v = 0; v < states && from + v < basis.length; v++) {
                basis[from + v] = (int) change[v];
            }
        }

        private static void shorten(long[] row) {
            long common = 0;
            for (int c = 0; c < MOST_STATES; c++) {
                common = commonDivisor(common, Math.abs(row[c]));
            }
            for (int c = 0; c < MOST_STATES && common > 1; c++) {
                row[c] /= common;
            }
        }

        private static long commonDivisor(long a, long b) {
            long greater = a;
            long less = b;
            // Of two longs the rest is halved every second time: 200 times are more than any need.
            for (int k = 0; k < 200 && less != 0; k++) {
                long rest = greater % less;
                greater = less;
                less = rest;
            }
            return greater;
        }
    }

    /** The cells of a field, a bit for each, at (0, 0) to (255, 255), and the box of those alive. */
    private static final class Field {
        static final int SIDE = 256;
        static final int WORDS = 4;

        private final long[] bits = new long[SIDE * WORDS];
        private final long[] anyOfColumn = new long[WORDS];
        private Rule rule;
        private int ruleNumber;
        private int generation;
        private int alive;
        // Of the box; all 0 without one.
        private int left;
        private int top;
        private int right;
        private int bottom;

        void begin(Rule itsRule, int itsNumber) {
            rule = itsRule;
            ruleNumber = itsNumber;
            clear();
        }

        void clear() {
            Arrays.fill(bits, 0L);
            generation = 0;
            measure(0, 0);
        }

        void copyFrom(Field other) {
            System.arraycopy(other.bits, 0, bits, 0, bits.length);
            rule = other.rule;
            alive = other.alive;
            left = other.left;
            top = other.top;
            right = other.right;
            bottom = other.bottom;
        }

        int age(int by) {
            generation += by;
            return generation;
        }

        private static boolean isWithin(int x, int y) {
            return x >= 0 && x < SIDE && y >= 0 && y < SIDE;
        }

        int look(int x, int y) {
            return isWithin(x, y) ? (int) (bits[y * WORDS + (x >> 6)] >>> (x & 63)) & 1 : 0;
        }

        /** The box is not measured; the caller does so. */
        void write(int x, int y, int v) {
            if (isWithin(x, y) && look(x, y) != v) {
                bits[y * WORDS + (x >> 6)] ^= 1L << (x & 63);
            }
        }

        int change(int x, int y, int v) {
            int was = look(x, y);
            write(x, y, v);
            measure(alive == 0 ? y : Math.min(top, y), alive == 0 ? y : Math.max(bottom, y));
            return was;
        }

        long wordAt(int y, int w) {
            return y >= 0 && y < SIDE && w >= 0 && w < WORDS ? bits[y * WORDS + w] : 0L;
        }

        void setWord(int y, int w, long word) {
            if (y >= 0 && y < SIDE && w >= 0 && w < WORDS) {
                bits[y * WORDS + w] = word;
            }
        }

        /** The 64 cells of a row from x on, dead ones behind its end. */
        long window(int x, int y) {
            int w = x >> 6;
            int within = x & 63;
            long word = wordAt(y, w) >>> within;
            return within == 0 ? word : word | wordAt(y, w + 1) << 64 - within;
        }

        /** Finds the box, all alive cells being in these rows. */
        void measure(int from, int to) {
            alive = 0;
            left = 0;
            top = 0;
            right = 0;
            bottom = 0;
            Arrays.fill(anyOfColumn, 0L);
            for (int y = Math.max(from, 0); y <= to && y < SIDE; y++) {
                int inRow = 0;
                for (int w = 0; w < WORDS; w++) {
                    long word = bits[y * WORDS + w];
                    anyOfColumn[w] |= word;
                    inRow += Long.bitCount(word);
                }
                if (inRow > 0) {
                    top = alive == 0 ? y : top;
                    bottom = y;
                    alive += inRow;
                }
            }
            if (alive > 0) {
                left = lowestOf(anyOfColumn);
                right = highestOf(anyOfColumn, 0);
            }
        }

        private static int lowestOf(long[] words) {
            for (int w = 0; w < WORDS; w++) {
                if (words[w] != 0) {
                    return w * 64 + Long.bitCount((words[w] & -words[w]) - 1);
                }
            }
            return -1;
        }

        private static int highestOf(long[] words, int from) {
            for (int w = WORDS - 1; w >= 0; w--) {
                int i = from + w;
                if (i < 0 || i >= words.length || words[i] == 0) {
                    continue;
                }
                int bit = 63;
                while (bit > 0 && words[i] >>> bit == 0) {
                    bit--;
                }
                return w * 64 + bit;
            }
            return -1;
        }

        /** -1 if none is alive in row y. */
        int lastAliveOf(int y) {
            return highestOf(bits, y * WORDS);
        }

        boolean hasRoomFor(int n) {
            return alive == 0 || left >= n && top >= n && right + n < SIDE && bottom + n < SIDE;
        }

        boolean isMovedFrom(Field old) {
            if (alive != old.alive || right - left != old.right - old.left || bottom - top != old.bottom - old.top) {
                return false;
            }
            for (int i = 0; i <= bottom - top; i++) {
                for (int j = 0; j <= right - left; j += 64) {
                    if (window(left + j, top + i) != old.window(old.left + j, old.top + i)) {
                        return false;
                    }
                }
            }
            return true;
        }

        /** Whether the other, of as many alive cells, is this one turned; bits of turn: mirror x, mirror y, swap. */
        boolean isTurned(Field other, int turn) {
            int width = other.right - other.left;
            int height = other.bottom - other.top;
            boolean swapped = (turn & 4) != 0;
            if (right - left != (swapped ? height : width) || bottom - top != (swapped ? width : height)) {
                return false;
            }
            for (int y = top; y <= bottom; y++) {
                for (int x = left; x <= right; x++) {
                    int u = swapped ? y - top : x - left;
                    int v = swapped ? x - left : y - top;
                    u = (turn & 1) == 0 ? u : width - u;
                    v = (turn & 2) == 0 ? v : height - v;
                    if (look(x, y) != other.look(other.left + u, other.top + v)) {
                        return false;
                    }
                }
            }
            return true;
        }
    }

    /** Does the steps of fields, 64 cells at once. */
    private static final class Stepper {
        // Three rows as they were before the step, with a dead word on each side.
        private long[] above = new long[Field.WORDS + 2];
        private long[] here = new long[Field.WORDS + 2];
        private long[] below = new long[Field.WORDS + 2];
        // The binary digits of 64 numbers of alive neighbours.
        private long ones;
        private long twos;
        private long fours;
        private long eights;

        void step(Field field) {
            Rule rule = field.rule;
            if (field.alive == 0 || rule == null) {
                return;
            }
            int from = Math.max(field.top - 1, 0);
            int to = Math.min(field.bottom + 1, Field.SIDE - 1);
            int first = Math.max(field.left - 1, 0) >> 6;
            int last = Math.min(field.right + 1, Field.SIDE - 1) >> 6;
            load(field, from - 1, above);
            load(field, from, here);
            for (int y = from; y <= to; y++) {
                load(field, y + 1, below);
                for (int w = first; w <= last; w++) {
                    field.setWord(y, w, nextWord(w + 1, rule));
                }
                long[] free = above;
                above = here;
                here = below;
                below = free;
            }
            field.measure(from, to);
        }

        private static void load(Field field, int y, long[] row) {
            for (int w = 0; w < Field.WORDS; w++) {
                row[w + 1] = field.wordAt(y, w);
            }
        }

        private long nextWord(int k, Rule rule) {
            if (k < 1 || k > Field.WORDS) {
                return 0L;
            }
            ones = 0;
            twos = 0;
            fours = 0;
            eights = 0;
            tally(above[k]);
            tally(below[k]);
            tally(westOf(here, k));
            tally(eastOf(here, k));
            if (rule.neighbours >= 6) {
                tally(westOf(above, k));
                tally(eastOf(below, k));
            }
            if (rule.neighbours == 8) {
                tally(eastOf(above, k));
                tally(westOf(below, k));
            }
            return here[k] & thoseIn(rule.stays) | ~here[k] & thoseIn(rule.born);
        }

        /** Of each cell the one at x - 1. */
        private static long westOf(long[] row, int k) {
            return k >= 1 && k < row.length ? row[k] << 1 | row[k - 1] >>> 63 : 0L;
        }

        /** Of each cell the one at x + 1. */
        private static long eastOf(long[] row, int k) {
            return k >= 0 && k + 1 < row.length ? row[k] >>> 1 | row[k + 1] << 63 : 0L;
        }

        private void tally(long cells) {
            long toTwos = ones & cells;
            ones ^= cells;
            long toFours = twos & toTwos;
            twos ^= toTwos;
            long toEights = fours & toFours;
            fours ^= toFours;
            eights |= toEights;
        }

        private long thoseIn(int numbers) {
            long cells = 0;
            for (int n = 0; n <= 8; n++) {
                if ((numbers >> n & 1) != 0) {
                    cells |= ((n & 1) != 0 ? ones : ~ones) & ((n & 2) != 0 ? twos : ~twos)
                            & ((n & 4) != 0 ? fours : ~fours) & ((n & 8) != 0 ? eights : ~eights);
                }
            }
            return cells;
        }
    }

    /** Reads the tape as a run text, letter by letter. */
    private static final class RunReader {
        private int place;
        private int times;
        private int fault;
        // Where the next cell that is told stands.
        private int column;
        private int row;

        /** The place of the fault; -1 if there is none. */
        int faultOf(Tape tape) {
            restart();
            int letter = nextLetter(tape);
            for (int k = 0; k < Tape.MOST && goesOn(letter); k++) {
                letter = nextLetter(tape);
            }
            if (letter == '!') {
                skipBlanks(tape);
                fault = place < tape.size() ? place : -1;
            }
            return fault;
        }

        private void restart() {
            place = 0;
            fault = -1;
        }

        private static boolean goesOn(int letter) {
            return letter > 0 && letter != '!';
        }

        private static boolean isBlank(int letter) {
            return letter == 10 || letter == 32;
        }

        private void skipBlanks(Tape tape) {
            while (place < tape.size() && isBlank(tape.byteAt(place))) {
                place++;
            }
        }

        /** The next of b, o, $ with how many times it stands, or !; 0 at a fault. */
        private int nextLetter(Tape tape) {
            skipBlanks(tape);
            int from = place;
            takeCount(tape);
            if (fault >= 0) {
                return 0;
            }
            boolean counted = place > from;
            int letter = tape.byteAt(place);
            if (letter == 'b' || letter == 'o' || letter == '$' || letter == '!' && !counted) {
                times = counted ? times : 1;
                place++;
                return letter;
            }
            fault = place;
            return 0;
        }

        private void takeCount(Tape tape) {
            int from = place;
            times = 0;
            while (place < tape.size()) {
                int digit = tape.byteAt(place) - '0';
                if (digit < 0 || digit > 9) {
                    break;
                }
                times = times * 10 + digit;
                if (times == 0 || times > 999) {
                    fault = place;
                    return;
                }
                place++;
            }
            if (place > from && times < 2) {
                fault = place - 1;
            }
        }

        /** Whether all cells that a text without a fault tells are places, its first one being at (x, y). */
        boolean fits(Tape tape, int x, int y) {
            restart();
            column = x;
            row = y;
            int letter = nextLetter(tape);
            for (int k = 0; k < Tape.MOST && goesOn(letter); k++) {
                moveBehind(letter, x);
                if (letter != '$' && (row >= Field.SIDE || column > Field.SIDE)) {
                    return false;
                }
                letter = nextLetter(tape);
            }
            return true;
        }

        /** The cells of a text that fits become as it tells: how many of them are alive. */
        int paint(Tape tape, Field field, int x, int y) {
            restart();
            column = x;
            row = y;
            int painted = 0;
            int letter = nextLetter(tape);
            for (int k = 0; k < Tape.MOST && goesOn(letter); k++) {
                if (letter != '$') {
                    painted += paintRun(field, letter == 'o' ? 1 : 0);
                }
                moveBehind(letter, x);
                letter = nextLetter(tape);
            }
            field.measure(0, Field.SIDE - 1);
            return painted;
        }

        private int paintRun(Field field, int v) {
            for (int k = 0; k < times; k++) {
                field.write(column + k, row, v);
            }
            return v * times;
        }

        private void moveBehind(int letter, int x) {
            if (letter == '$') {
                row += times;
                column = x;
            } else {
                column += times;
            }
        }
    }

    /** Goes through the text of a field as far as one of its bytes. */
    private static final class FieldText {
        private int wanted;
        private int place;
        private int seen;

        /** 0 if there is no byte i. */
        int byteOf(Field field, int i) {
            wanted = i;
            place = 0;
            seen = 0;
            int above = field.top;
            for (int y = field.top; y <= field.bottom && place <= wanted; y++) {
                int last = field.lastAliveOf(y);
                if (last < 0) {
                    continue;
                }
                if (y > above) {
                    writeRun(y - above, '$');
                }
                above = y;
                writeRow(field, y, last);
            }
            writeByte('!');
            return seen;
        }

        private void writeRow(Field field, int y, int last) {
            int x = field.left;
            while (x <= last && place <= wanted) {
                int v = field.look(x, y);
                int next = x + 1;
                while (next <= last && field.look(next, y) == v) {
                    next++;
                }
                writeRun(next - x, v == 1 ? 'o' : 'b');
                x = next;
            }
        }

        private void writeRun(int times, char letter) {
            if (times >= 100) {
                writeByte('0' + times / 100 % 10);
            }
            if (times >= 10) {
                writeByte('0' + times / 10 % 10);
            }
            if (times >= 2) {
                writeByte('0' + times % 10);
            }
            writeByte(letter);
        }

        private void writeByte(int letter) {
            if (place == wanted) {
                seen = letter;
            }
            place++;
        }
    }

    /** Counts the different blocks of a field: squares get names, those with the same cells the same one. */
    private static final class Squares {
        // How many squares of side 4 are in a line.
        private static final int LINE = 64;
        private static final int MOST_SLOTS = 8192;
        private static final int SIDES = 8;

        // The names of the squares of one side within the box, 0 being that of the empty one.
        private final int[] names = new int[LINE * LINE];
        private final long[] keys = new long[MOST_SLOTS];
        private final int[] keyNames = new int[MOST_SLOTS];
        private int slots;
        private int named;
        private boolean emptySeen;

        int different(Field field) {
            if (field.alive == 0) {
                return SIDES;
            }
            int sum = differentPairs(field);
            for (int power = 2; power <= SIDES; power++) {
                sum += differentOfSide(field, power);
            }
            return sum;
        }

        /** How many squares of a side, 2 to the power, meet the box: all others are empty. */
        private static int squaresMet(Field field, int power) {
            int wide = (field.right >> power) - (field.left >> power) + 1;
            int high = (field.bottom >> power) - (field.top >> power) + 1;
            return wide * high;
        }

        private static boolean meetsBox(Field field, int power, int i, int j) {
            return i >= field.top >> power && i <= field.bottom >> power
                    && j >= field.left >> power && j <= field.right >> power;
        }

        private static boolean leavesEmptyOnes(Field field, int power) {
            int line = Field.SIDE >> power;
            return squaresMet(field, power) < line * line;
        }

        /** Of side 2: there are only 16 of them, so they need no names. */
        private static int differentPairs(Field field) {
            int seen = leavesEmptyOnes(field, 1) ? 1 : 0;
            for (int i = field.top >> 1; i <= field.bottom >> 1; i++) {
                for (int j = field.left >> 1; j <= field.right >> 1; j++) {
                    long upper = field.window(2 * j, 2 * i) & 3;
                    long lower = field.window(2 * j, 2 * i + 1) & 3;
                    seen |= 1 << (int) (upper | lower << 2);
                }
            }
            return Integer.bitCount(seen);
        }

        private int differentOfSide(Field field, int power) {
            emptySeen = leavesEmptyOnes(field, power);
            forgetKeys(squaresMet(field, power));
            for (int i = field.top >> power; i <= field.bottom >> power && i < LINE; i++) {
                for (int j = field.left >> power; j <= field.right >> power && j < LINE; j++) {
                    long key = power == 2 ? keyOfCells(field, i, j) : keyOfParts(field, power - 1, i, j);
                    // What stands here is of the side before, and has been a part already.
                    names[i * LINE + j] = nameOf(key);
                }
            }
            return named + (emptySeen ? 1 : 0);
        }

        private static long keyOfCells(Field field, int i, int j) {
            long key = 0;
            for (int k = 0; k < 4; k++) {
                key = key << 4 | field.window(4 * j, 4 * i + k) & 15;
            }
            return key;
        }

        private long keyOfParts(Field field, int power, int i, int j) {
            long key = 0;
            for (int k = 0; k < 4; k++) {
                key = key << 13 | nameAt(field, power, 2 * i + (k >> 1), 2 * j + (k & 1));
            }
            return key;
        }

        private int nameAt(Field field, int power, int i, int j) {
            boolean met = i >= 0 && i < LINE && j >= 0 && j < LINE && meetsBox(field, power, i, j);
            return met ? names[i * LINE + j] : 0;
        }

        private void forgetKeys(int squares) {
            named = 0;
            slots = 2;
            while (slots < MOST_SLOTS && slots < 2 * squares) {
                slots *= 2;
            }
            for (int s = 0; s < slots; s++) {
                keys[s] = 0;
            }
        }

        private int nameOf(long key) {
            if (key == 0) {
                emptySeen = true;
                return 0;
            }
            int from = (int) (key * 0x9E3779B97F4A7C15L >>> 40);
            for (int tries = 0; tries < slots; tries++) {
                int s = from + tries & slots - 1;
                if (keys[s] == 0) {
                    named++;
                    keys[s] = key;
                    keyNames[s] = named;
                }
                if (keys[s] == key) {
                    return keyNames[s];
                }
            }
            return 0;
        }
    }

    /** Goes through all patterns of a box, leaving out those whose upper bits are wrong already. */
    private static final class Search {
        static final int MOST_PATTERNS = 65536;

        private static final int MOST_CELLS = 64;
        private static final int MOST_BITS = 16;
        // What a cell has to be after the step, beside 0 and 1.
        private static final int AS_BEFORE = 2;
        private static final int ANY = 3;

        // For each cell of the box and round it: its bit, if it has one, and those of its neighbours.
        private final int[] own = new int[MOST_CELLS];
        private final int[] near = new int[MOST_CELLS];
        private final int[] due = new int[MOST_CELLS];
        private int cells;
        // The cells by the lowest bit on which they depend: those of bit b stand from starts[b] on.
        private final int[] order = new int[MOST_CELLS];
        private final int[] starts = new int[MOST_BITS + 1];
        private int bits;
        private int born;
        private int stays;
        private final int[] nexts = new int[1 << 12];
        // A bit for each pattern.
        private final long[] hitBits = new long[MOST_PATTERNS / 64];
        private int hits;

        int findStill(Rule rule, int rows, int columns) {
            layOut(rule, rows, columns, AS_BEFORE);
            sortCells();
            explore(MOST_PATTERNS);
            return hits;
        }

        int findAncestors(Rule rule, int rows, int columns, int pattern, int most) {
            layOut(rule, rows + 2, columns + 2, 0);
            int rest = pattern;
            for (int i = 0; i < rows; i++) {
                for (int j = 0; j < columns; j++) {
                    // One more row and column of the greater box, and one of those round it.
                    int k = (i + 2) * (columns + 4) + j + 2;
                    if (k < cells) {
                        due[k] = rest & 1;
                    }
                    rest >>= 1;
                }
            }
            sortCells();
            explore(most);
            return hits;
        }

        int findGarden(Rule rule, int rows, int columns) {
            int size = rows * columns;
            for (int n = 0; n <= size; n++) {
                for (int pattern = 0; pattern < 1 << size; pattern++) {
                    if (Integer.bitCount(pattern) == n && findAncestors(rule, rows, columns, pattern, 1) == 0) {
                        hit(pattern);
                        return 1;
                    }
                }
            }
            forget();
            return 0;
        }

        int findOscillators(Rule rule, int rows, int columns, int p) {
            layOut(rule, rows, columns, ANY);
            sortCells();
            explore(MOST_PATTERNS);
            int size = Math.min(1 << bits, nexts.length);
            for (int pattern = 0; pattern < size; pattern++) {
                nexts[pattern] = isHit(pattern) ? nextWithin(pattern) : -1;
            }
            forget();
            for (int pattern = 0; pattern < size; pattern++) {
                if (returnsAfter(pattern, p)) {
                    hit(pattern);
                }
            }
            return hits;
        }

        private boolean returnsAfter(int pattern, int p) {
            int now = pattern;
            for (int k = 1; k <= p; k++) {
                now = now >= 0 && now < nexts.length ? nexts[now] : -1;
                if (now < 0) {
                    return false;
                }
                if (now == pattern) {
                    return k == p;
                }
            }
            return false;
        }

        /** Lists the cells of the box, which have to become as dueWithin says, and those round it, dead ones. */
        private void layOut(Rule rule, int rows, int columns, int dueWithin) {
            born = rule.born;
            stays = rule.stays;
            bits = Math.min(rows * columns, MOST_BITS);
            cells = 0;
            for (int i = -1; i <= rows; i++) {
                for (int j = -1; j <= columns && cells < MOST_CELLS; j++) {
                    own[cells] = bitOf(i, j, rows, columns);
                    int round = 0;
                    for (int k = 0; k < rule.neighbours && k < NEIGHBOUR_X.length; k++) {
                        round |= bitOf(i + NEIGHBOUR_Y[k], j + NEIGHBOUR_X[k], rows, columns);
                    }
                    near[cells] = round;
                    due[cells] = own[cells] != 0 ? dueWithin : 0;
                    cells++;
                }
            }
        }

        private static int bitOf(int i, int j, int rows, int columns) {
            return i >= 0 && i < rows && j >= 0 && j < columns ? 1 << i * columns + j : 0;
        }

        private void sortCells() {
            int sorted = 0;
            for (int b = 0; b < bits; b++) {
                starts[b] = sorted;
                for (int k = 0; k < cells; k++) {
                    int all = own[k] | near[k];
                    if (due[k] != ANY && (all & -all) == 1 << b && sorted < MOST_CELLS) {
                        order[sorted] = k;
                        sorted++;
                    }
                }
            }
            starts[bits] = sorted;
        }

        /** Hits the patterns, rising, after which each cell is as it is due, up to so many. */
        private void explore(int most) {
            forget();
            int size = 1 << bits;
            int pattern = 0;
            int changed = bits - 1;
            while (pattern < size && hits < most) {
                int wrong = changed;
                while (wrong >= 0 && agrees(wrong, pattern)) {
                    wrong--;
                }
                if (wrong < 0) {
                    hit(pattern);
                    wrong = 0;
                }
                // No pattern with the same bits from the wrong one upwards can be right.
                int next = (pattern >> wrong) + 1 << wrong;
                changed = wrong;
                while (changed < bits - 1 && (pattern >> changed & 1) != 0) {
                    changed++;
                }
                pattern = next;
            }
        }

        /** Whether the cells whose lowest bit is b become as they are due. */
        private boolean agrees(int b, int pattern) {
            if (b < 0 || b >= MOST_BITS) {
                return false;
            }
            for (int s = starts[b]; s < starts[b + 1] && s < MOST_CELLS; s++) {
                int k = order[s];
                int before = (pattern & own[k]) != 0 ? 1 : 0;
                if (nextOf(k, pattern) != (due[k] == AS_BEFORE ? before : due[k])) {
                    return false;
                }
            }
            return true;
        }

        /** The state of cell k one step after a pattern. */
        private int nextOf(int k, int pattern) {
            if (k < 0 || k >= MOST_CELLS) {
                return 0;
            }
            int numbers = (pattern & own[k]) != 0 ? stays : born;
            return numbers >> Integer.bitCount(pattern & near[k]) & 1;
        }

        private int nextWithin(int pattern) {
            int next = 0;
            for (int k = 0; k < cells; k++) {
                next |= nextOf(k, pattern) * own[k];
            }
            return next;
        }

        private void forget() {
            Arrays.fill(hitBits, 0L);
            hits = 0;
        }

        private void hit(int pattern) {
            if (pattern >= 0 && pattern < MOST_PATTERNS) {
                hitBits[pattern >> 6] |= 1L << (pattern & 63);
                hits++;
            }
        }

        private boolean isHit(int pattern) {
            return pattern >= 0 && pattern < MOST_PATTERNS && (hitBits[pattern >> 6] >>> (pattern & 63) & 1) != 0;
        }

        /** The i-th pattern that was hit, from 0 on. */
        int hitAt(int i) {
            int before = i;
            for (int w = 0; w < hitBits.length; w++) {
                int inWord = Long.bitCount(hitBits[w]);
                if (before >= inWord) {
                    before -= inWord;
                    continue;
                }
                for (int bit = 0; bit < 64; bit++) {
                    if ((hitBits[w] >>> bit & 1) != 0) {
                        if (before == 0) {
                            return w * 64 + bit;
                        }
                        before--;
                    }
                }
            }
            return BAD;
        }
    }

    /** A grid of a block rule. */
    private static final class Grid {
        static final int MOST_SIDE = 16;

        private final int[] states = new int[MOST_SIDE * MOST_SIDE];
        private Rule rule;
        private int kinds;
        private int rows;
        private int columns;
        private int generation;

        void begin(Rule itsRule, int itsRows, int itsColumns) {
            rule = itsRule;
            kinds = itsRule.states;
            rows = itsRows;
            columns = itsColumns;
            generation = 0;
            Arrays.fill(states, 0);
        }

        boolean hasCell(int i, int j) {
            return i >= 0 && i < rows && j >= 0 && j < columns;
        }

        boolean hasState(int v) {
            return v >= 0 && v < kinds;
        }

        int look(int i, int j) {
            return hasCell(i, j) ? states[i * columns + j] : 0;
        }

        int change(int i, int j, int v) {
            int was = look(i, j);
            if (hasCell(i, j)) {
                states[i * columns + j] = v;
            }
            return was;
        }

        int scatter(int seed, int share) {
            int others = kinds - 1;
            if (others < 1) {
                return 0;
            }
            int t = seed;
            int sown = 0;
            for (int k = 0; k < rows * columns && k < states.length; k++) {
                t = t * 1664525 + 1013904223;
                int u = t >>> 16;
                states[k] = u % 100 < share ? 1 + u / 100 % others : 0;
                sown += states[k] != 0 ? 1 : 0;
            }
            return sown;
        }

        int tally(int v) {
            int sum = 0;
            for (int k = 0; k < rows * columns && k < states.length; k++) {
                sum += states[k] == v ? 1 : 0;
            }
            return sum;
        }

        boolean canGoBack(int n) {
            return rule != null && rule.isReversible() && generation >= n;
        }

        int forward(int n) {
            for (int k = 0; k < n && rule != null; k++) {
                turnBlocks(rule.becomes, generation & 1);
                generation++;
            }
            return generation;
        }

        int back(int n) {
            for (int k = 0; k < n && rule != null; k++) {
                generation--;
                turnBlocks(rule.origin, generation & 1);
            }
            return generation;
        }

        private void turnBlocks(int[] table, int offset) {
            for (int i = offset; i < rows; i += 2) {
                int upper = i * columns;
                int lower = i + 1 < rows ? upper + columns : 0;
                for (int j = offset; j < columns; j += 2) {
                    int wrapped = j + 1 < columns ? j + 1 : 0;
                    turnBlock(table, upper + j, upper + wrapped, lower + j, lower + wrapped);
                }
            }
        }

        private void turnBlock(int[] table, int a, int b, int c, int d) {
            int number = ((states[a] * kinds + states[b]) * kinds + states[c]) * kinds + states[d];
            if (kinds < 2 || number < 0 || number >= table.length || table[number] < 0) {
                return;
            }
            int image = table[number];
            states[d] = image % kinds;
            image /= kinds;
            states[c] = image % kinds;
            image /= kinds;
            states[b] = image % kinds;
            states[a] = image / kinds;
        }
    }
}
