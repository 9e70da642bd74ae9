import java.math.BigInteger;
import java.util.ArrayList;
import java.util.HashMap;
import java.util.HashSet;
import java.util.List;
import java.util.Map;
import java.util.Set;
import java.util.TreeSet;
import java.util.regex.Matcher;
import java.util.regex.Pattern;

/**
 * The document once more, written from its words with sets, texts and patterns of the Java library, and slow:
 * ModelTest asks it what the class should answer.
 */
final class PlainMuseum {
    private static final int BAD = -1;
    private static final int NOT = -2;
    private static final int FULL = -3;
    private static final Pattern RULE = Pattern.compile("B0?1?2?3?4?5?6?7?8?/S0?1?2?3?4?5?6?7?8?/M"
            + "|B0?1?2?3?4?/S0?1?2?3?4?/V|B0?1?2?3?4?5?6?/S0?1?2?3?4?5?6?/X"
            + "|K2[01]{64}|K3[0-2]{324}|K4[0-3]{1024}");
    private static final Pattern RUNS = Pattern.compile(
            "[ \\n]*(?:(?:[2-9]|[1-9][0-9]|[1-9][0-9][0-9])?[bo$][ \\n]*)*![ \\n]*");

    private record Cell(int x, int y) {
    }

    private static final class PlainField {
        private final int rule;
        private Set<Cell> alive = new HashSet<>();
        private int generation = 0;

        PlainField(int rule) {
            this.rule = rule;
        }
    }

    private static final class PlainGrid {
        private final int rule;
        private final int[][] cells;
        private int generation = 0;
        private final List<int[][]> past = new ArrayList<>();

        PlainGrid(int rule, int rows, int columns) {
            this.rule = rule;
            cells = new int[rows][columns];
        }
    }

    private final StringBuilder tape = new StringBuilder();
    private final List<String> rules = new ArrayList<>();
    private final List<PlainField> fields = new ArrayList<>();
    private final List<PlainGrid> grids = new ArrayList<>();
    private final List<Integer> hits = new ArrayList<>();
    private int searches = 0;
    private int shiftX = 0;
    private int shiftY = 0;

    // ---- tape and rules

    int feed(int a, int b, int c, int d, int e) {
        if (tape.length() > 1980) {
            return FULL;
        }
        for (int word : new int[] {a, b, c, d, e}) {
            for (int k = 3; k >= 0; k--) {
                tape.append((char) (word >> 8 * k & 255));
            }
        }
        return tape.length();
    }

    int end(int n) {
        if (n < 0 || n > tape.length()) {
            return BAD;
        }
        tape.setLength(n);
        return n;
    }

    private String takeTape() {
        String text = tape.toString();
        tape.setLength(0);
        return text;
    }

    /** The least place with which no text of the pattern goes on; -1 if the text is whole. */
    private static int faultOf(Pattern pattern, String text) {
        for (int n = 1; n <= text.length(); n++) {
            Matcher matcher = pattern.matcher(text.substring(0, n));
            if (!matcher.matches() && !matcher.hitEnd()) {
                return n - 1;
            }
        }
        return pattern.matcher(text).matches() ? -1 : text.length();
    }

    int rule() {
        String text = takeTape();
        if (rules.size() == 16) {
            return FULL;
        }
        int fault = faultOf(RULE, text);
        if (fault >= 0) {
            return -10 - fault;
        }
        rules.add(text);
        return rules.size() - 1;
    }

    private boolean isRule(int r) {
        return r >= 0 && r < rules.size();
    }

    private boolean isBlockRule(int r) {
        return rules.get(r).startsWith("K");
    }

    private boolean isCalm(int r) {
        return !isBlockRule(r) && !rules.get(r).startsWith("B0");
    }

    int ruleByte(int r, int i) {
        if (!isRule(r)) {
            return BAD;
        }
        return i >= 0 && i < rules.get(r).length() ? rules.get(r).charAt(i) : 0;
    }

    // ---- fields

    int field(int r) {
        if (!isRule(r)) {
            return BAD;
        }
        if (!isCalm(r)) {
            return NOT;
        }
        if (fields.size() == 8) {
            return FULL;
        }
        fields.add(new PlainField(r));
        return fields.size() - 1;
    }

    private boolean isField(int f) {
        return f >= 0 && f < fields.size();
    }

    private static boolean isPlace(int x, int y) {
        return x >= -128 && x <= 127 && y >= -128 && y <= 127;
    }

    int at(int f, int x, int y) {
        if (!isField(f) || !isPlace(x, y)) {
            return BAD;
        }
        return fields.get(f).alive.contains(new Cell(x, y)) ? 1 : 0;
    }

    int put(int f, int x, int y, int v) {
        int was = at(f, x, y);
        if (was == BAD || v != 0 && v != 1) {
            return BAD;
        }
        become(fields.get(f), x, y, v == 1);
        return was;
    }

    private static void become(PlainField field, int x, int y, boolean isAlive) {
        if (isAlive) {
            field.alive.add(new Cell(x, y));
        } else {
            field.alive.remove(new Cell(x, y));
        }
    }

    private static int runFault(String text) {
        int fault = faultOf(RUNS, text);
        boolean behindOne = fault > 0 && text.charAt(fault - 1) == '1';
        boolean countIsOne = behindOne && (fault == 1 || !Character.isDigit(text.charAt(fault - 2)));
        return countIsOne ? fault - 1 : fault;
    }

    int read(int f, int x, int y) {
        String text = takeTape();
        if (!isField(f) || !isPlace(x, y)) {
            return BAD;
        }
        int fault = runFault(text);
        if (fault >= 0) {
            return -10 - fault;
        }
        Map<Cell, Boolean> told = new HashMap<>();
        Matcher run = Pattern.compile("([0-9]*)([bo$])").matcher(text);
        int cx = x;
        int cy = y;
        while (run.find()) {
            int times = run.group(1).isEmpty() ? 1 : Integer.parseInt(run.group(1));
            for (int k = 0; k < times; k++) {
                if (run.group(2).equals("$")) {
                    cy++;
                    cx = x;
                } else {
                    told.put(new Cell(cx, cy), run.group(2).equals("o"));
                    cx++;
                }
            }
        }
        int alive = 0;
        for (Map.Entry<Cell, Boolean> entry : told.entrySet()) {
            if (!isPlace(entry.getKey().x(), entry.getKey().y())) {
                return NOT;
            }
            alive += entry.getValue() ? 1 : 0;
        }
        for (Map.Entry<Cell, Boolean> entry : told.entrySet()) {
            become(fields.get(f), entry.getKey().x(), entry.getKey().y(), entry.getValue());
        }
        return alive;
    }

    /** Least x, least y, greatest x, greatest y. */
    private static int[] boxOf(Set<Cell> alive) {
        if (alive.isEmpty()) {
            return new int[] {0, 0, 0, 0};
        }
        int[] box = {999, 999, -999, -999};
        for (Cell cell : alive) {
            box[0] = Math.min(box[0], cell.x());
            box[1] = Math.min(box[1], cell.y());
            box[2] = Math.max(box[2], cell.x());
            box[3] = Math.max(box[3], cell.y());
        }
        return box;
    }

    private static String textOf(Set<Cell> alive) {
        int[] box = boxOf(alive);
        StringBuilder text = new StringBuilder();
        for (int y = box[1]; y <= box[3]; y++) {
            StringBuilder row = new StringBuilder();
            for (int x = box[0]; x <= box[2]; x++) {
                row.append(alive.contains(new Cell(x, y)) ? 'o' : 'b');
            }
            text.append(row.toString().replaceAll("b+$", "")).append('$');
        }
        String whole = text.toString().replaceAll("\\$+$", "");
        Matcher run = Pattern.compile("b+|o+|\\$+").matcher(whole);
        StringBuilder runs = new StringBuilder();
        while (run.find()) {
            runs.append(run.group().length() > 1 ? "" + run.group().length() : "").append(run.group().charAt(0));
        }
        return runs.append('!').toString();
    }

    int textByte(int f, int i) {
        if (!isField(f)) {
            return BAD;
        }
        String text = textOf(fields.get(f).alive);
        return i >= 0 && i < text.length() ? text.charAt(i) : 0;
    }

    private static boolean areNeighbours(char kind, int dx, int dy) {
        if (Math.abs(dx) > 1 || Math.abs(dy) > 1 || dx == 0 && dy == 0) {
            return false;
        }
        return kind == 'M' || dx == 0 || dy == 0 || kind == 'X' && dx == dy;
    }

    private static boolean livesOn(String rule, boolean isAlive, int near) {
        String numbers = rule.split("/")[isAlive ? 1 : 0].substring(1);
        return numbers.indexOf((char) ('0' + near)) >= 0;
    }

    private static Set<Cell> after(String rule, Set<Cell> alive) {
        char kind = rule.charAt(rule.length() - 1);
        Map<Cell, Integer> near = new HashMap<>();
        for (Cell cell : alive) {
            near.merge(cell, 0, Integer::sum);
            for (int dx = -1; dx <= 1; dx++) {
                for (int dy = -1; dy <= 1; dy++) {
                    // The neighbour for which this cell lies at (dx, dy).
                    if (areNeighbours(kind, dx, dy)) {
                        near.merge(new Cell(cell.x() - dx, cell.y() - dy), 1, Integer::sum);
                    }
                }
            }
        }
        Set<Cell> next = new HashSet<>();
        for (Map.Entry<Cell, Integer> entry : near.entrySet()) {
            if (livesOn(rule, alive.contains(entry.getKey()), entry.getValue())) {
                next.add(entry.getKey());
            }
        }
        return next;
    }

    private static boolean areDone(PlainField field, int n) {
        int[] box = boxOf(field.alive);
        return field.alive.isEmpty() || isPlace(box[0] - n, box[1] - n) && isPlace(box[2] + n, box[3] + n);
    }

    int steps(int f, int n) {
        if (!isField(f) || n < 0 || n > 64) {
            return BAD;
        }
        PlainField field = fields.get(f);
        if (!areDone(field, n)) {
            return NOT;
        }
        for (int k = 0; k < n; k++) {
            field.alive = after(rules.get(field.rule), field.alive);
            field.generation++;
        }
        return field.generation;
    }

    int jump(int f, int k) {
        return k < 0 || k > 6 ? BAD : steps(f, 1 << k);
    }

    int about(int f, int what) {
        if (!isField(f) || what < 0 || what > 7) {
            return BAD;
        }
        PlainField field = fields.get(f);
        if (what >= 1 && what <= 4) {
            return boxOf(field.alive)[what - 1];
        }
        int[] others = {field.alive.size(), 0, 0, 0, 0, field.generation, field.rule};
        return what == 7 ? differentBlocks(field.alive) : others[what];
    }

    private static int differentBlocks(Set<Cell> alive) {
        int sum = 0;
        for (int side = 2; side <= 256; side *= 2) {
            Map<Cell, TreeSet<Integer>> squares = new HashMap<>();
            for (Cell cell : alive) {
                int x = cell.x() + 128;
                int y = cell.y() + 128;
                squares.computeIfAbsent(new Cell(x / side, y / side), key -> new TreeSet<>())
                        .add(y % side * side + x % side);
            }
            boolean someEmpty = squares.size() < 256 / side * (256 / side);
            sum += new HashSet<>(squares.values()).size() + (someEmpty ? 1 : 0);
        }
        return sum;
    }

    private static Set<Cell> moved(Set<Cell> alive, int dx, int dy) {
        Set<Cell> there = new HashSet<>();
        for (Cell cell : alive) {
            there.add(new Cell(cell.x() + dx, cell.y() + dy));
        }
        return there;
    }

    private static Set<Cell> atOrigin(Set<Cell> alive) {
        int[] box = boxOf(alive);
        return moved(alive, -box[0], -box[1]);
    }

    int period(int f, int most) {
        if (!isField(f) || most < 1 || most > 60) {
            return BAD;
        }
        PlainField field = fields.get(f);
        if (!areDone(field, most)) {
            return NOT;
        }
        Set<Cell> then = field.alive;
        for (int p = 1; p <= most; p++) {
            then = after(rules.get(field.rule), then);
            if (atOrigin(then).equals(atOrigin(field.alive))) {
                shiftX = boxOf(then)[0] - boxOf(field.alive)[0];
                shiftY = boxOf(then)[1] - boxOf(field.alive)[1];
                return p;
            }
        }
        return 0;
    }

    int shift(int axis) {
        return axis == 0 ? shiftX : axis == 1 ? shiftY : BAD;
    }

    int congruent(int f, int g) {
        if (!isField(f) || !isField(g)) {
            return BAD;
        }
        Set<Cell> turned = fields.get(f).alive;
        Set<Cell> other = atOrigin(fields.get(g).alive);
        for (int turn = 0; turn < 8; turn++) {
            if (atOrigin(turned).equals(other)) {
                return 1;
            }
            Set<Cell> next = new HashSet<>();
            for (Cell cell : turned) {
                next.add(turn == 3 ? new Cell(-cell.x(), cell.y()) : new Cell(-cell.y(), cell.x()));
            }
            turned = next;
        }
        return 0;
    }

    int empty(int f) {
        if (!isField(f)) {
            return BAD;
        }
        int were = fields.get(f).alive.size();
        fields.get(f).alive = new HashSet<>();
        fields.get(f).generation = 0;
        return were;
    }

    // ---- searches

    private int refusal(int r, boolean asSaid) {
        if (!isRule(r) || !asSaid) {
            return BAD;
        }
        return !isCalm(r) ? NOT : searches == 30 ? FULL : 0;
    }

    private static boolean isBox(int rows, int columns, int more, int most) {
        return rows >= 1 && rows <= 16 && columns >= 1 && columns <= 16 && (rows + more) * (columns + more) <= most;
    }

    private static Set<Cell> cellsOf(int pattern, int columns) {
        Set<Cell> alive = new HashSet<>();
        for (int k = 0; k < 16; k++) {
            if ((pattern >> k & 1) == 1) {
                alive.add(new Cell(k % columns, k / columns));
            }
        }
        return alive;
    }

    /** -1 if a cell outside the box is alive. */
    private static int patternOf(Set<Cell> alive, int rows, int columns) {
        int pattern = 0;
        for (Cell cell : alive) {
            if (cell.x() < 0 || cell.x() >= columns || cell.y() < 0 || cell.y() >= rows) {
                return -1;
            }
            pattern |= 1 << cell.y() * columns + cell.x();
        }
        return pattern;
    }

    int still(int r, int rows, int columns) {
        int refused = refusal(r, isBox(rows, columns, 0, 16));
        if (refused != 0) {
            return refused;
        }
        searches++;
        hits.clear();
        for (int pattern = 0; pattern < 1 << rows * columns; pattern++) {
            Set<Cell> alive = cellsOf(pattern, columns);
            if (after(rules.get(r), alive).equals(alive)) {
                hits.add(pattern);
            }
        }
        return hits.size();
    }

    int oscillators(int r, int rows, int columns, int p) {
        int refused = refusal(r, isBox(rows, columns, 0, 12) && p >= 2 && p <= 6);
        if (refused != 0) {
            return refused;
        }
        searches++;
        hits.clear();
        for (int pattern = 0; pattern < 1 << rows * columns; pattern++) {
            int first = 0;
            int now = pattern;
            for (int k = 1; k <= p && first == 0 && now >= 0; k++) {
                now = patternOf(after(rules.get(r), cellsOf(now, columns)), rows, columns);
                first = now == pattern ? k : 0;
            }
            if (first == p) {
                hits.add(pattern);
            }
        }
        return hits.size();
    }

    /** For each pattern of the box all its ancestors. */
    private Map<Integer, List<Integer>> families(int r, int rows, int columns) {
        Map<Integer, List<Integer>> families = new HashMap<>();
        for (int old = 0; old < 1 << (rows + 2) * (columns + 2); old++) {
            Set<Cell> next = moved(after(rules.get(r), cellsOf(old, columns + 2)), -1, -1);
            families.computeIfAbsent(patternOf(next, rows, columns), key -> new ArrayList<>()).add(old);
        }
        return families;
    }

    int ancestors(int r, int rows, int columns, int pattern) {
        int refused = refusal(r, isBox(rows, columns, 2, 16) && pattern >= 0 && pattern < 1 << rows * columns);
        if (refused != 0) {
            return refused;
        }
        searches++;
        hits.clear();
        hits.addAll(families(r, rows, columns).getOrDefault(pattern, List.of()));
        return hits.size();
    }

    int garden(int r, int rows, int columns) {
        int refused = refusal(r, isBox(rows, columns, 2, 16));
        if (refused != 0) {
            return refused;
        }
        searches++;
        hits.clear();
        Map<Integer, List<Integer>> families = families(r, rows, columns);
        int best = -1;
        for (int pattern = 0; pattern < 1 << rows * columns; pattern++) {
            boolean fewer = best < 0 || Integer.bitCount(pattern) < Integer.bitCount(best);
            if (!families.containsKey(pattern) && fewer) {
                best = pattern;
            }
        }
        if (best >= 0) {
            hits.add(best);
        }
        return hits.size();
    }

    int found(int i) {
        return i >= 0 && i < hits.size() ? hits.get(i) : BAD;
    }

    // ---- grids

    int grid(int r, int rows, int columns) {
        boolean sides = rows >= 2 && rows <= 16 && rows % 2 == 0 && columns >= 2 && columns <= 16 && columns % 2 == 0;
        if (!isRule(r) || !sides) {
            return BAD;
        }
        if (!isBlockRule(r)) {
            return NOT;
        }
        if (grids.size() == 8) {
            return FULL;
        }
        grids.add(new PlainGrid(r, rows, columns));
        return grids.size() - 1;
    }

    private int statesOf(int r) {
        return rules.get(r).charAt(1) - '0';
    }

    private boolean isGrid(int g) {
        return g >= 0 && g < grids.size();
    }

    int cell(int g, int i, int j) {
        if (!isGrid(g) || i < 0 || i >= grids.get(g).cells.length || j < 0 || j >= grids.get(g).cells[0].length) {
            return BAD;
        }
        return grids.get(g).cells[i][j];
    }

    int set(int g, int i, int j, int v) {
        int was = cell(g, i, j);
        if (was == BAD || v < 0 || v >= statesOf(grids.get(g).rule)) {
            return BAD;
        }
        grids.get(g).cells[i][j] = v;
        grids.get(g).past.clear();
        return was;
    }

    int fill(int g, int seed, int share) {
        if (!isGrid(g) || share < 0 || share > 100) {
            return BAD;
        }
        PlainGrid grid = grids.get(g);
        grid.past.clear();
        BigInteger two32 = BigInteger.ONE.shiftLeft(32);
        BigInteger t = BigInteger.valueOf(seed).mod(two32);
        int others = 0;
        for (int[] row : grid.cells) {
            for (int j = 0; j < row.length; j++) {
                t = t.multiply(BigInteger.valueOf(1664525)).add(BigInteger.valueOf(1013904223)).mod(two32);
                int u = t.shiftRight(16).intValue();
                row[j] = u % 100 < share ? 1 + u / 100 % (statesOf(grid.rule) - 1) : 0;
                others += row[j] == 0 ? 0 : 1;
            }
        }
        return others;
    }

    private String image(int r, String block) {
        int number = Integer.parseInt(block, statesOf(r));
        return rules.get(r).substring(2 + 4 * number, 6 + 4 * number);
    }

    private List<String> blocks(int r) {
        List<String> blocks = new ArrayList<>();
        int states = statesOf(r);
        for (int n = 0; n < states * states * states * states; n++) {
            String digits = "000" + Integer.toString(n, states);
            blocks.add(digits.substring(digits.length() - 4));
        }
        return blocks;
    }

    /** Blocks with their upper left at cells of this parity become what the map says. */
    private static void turn(int[][] cells, int parity, Map<String, String> map) {
        int rows = cells.length;
        int columns = cells[0].length;
        for (int i = parity; i < rows; i += 2) {
            for (int j = parity; j < columns; j += 2) {
                int below = (i + 1) % rows;
                int right = (j + 1) % columns;
                String next = map.get("" + cells[i][j] + cells[i][right] + cells[below][j] + cells[below][right]);
                cells[i][j] = next.charAt(0) - '0';
                cells[i][right] = next.charAt(1) - '0';
                cells[below][j] = next.charAt(2) - '0';
                cells[below][right] = next.charAt(3) - '0';
            }
        }
    }

    int go(int g, int n) {
        if (!isGrid(g) || n == 0 || Math.abs((long) n) > 1000) {
            return BAD;
        }
        PlainGrid grid = grids.get(g);
        if (n < 0 && (reversible(grid.rule) == 0 || grid.generation < -n)) {
            return NOT;
        }
        Map<String, String> map = new HashMap<>();
        for (String block : blocks(grid.rule)) {
            map.put(n > 0 ? block : image(grid.rule, block), n > 0 ? image(grid.rule, block) : block);
        }
        for (int k = 0; k < Math.abs(n); k++) {
            turn(grid.cells, (n > 0 ? grid.generation : grid.generation - 1) % 2, map);
            grid.generation += n > 0 ? 1 : -1;
        }
        return grid.generation;
    }

    int amount(int g, int v) {
        if (!isGrid(g) || v < 0 || v >= statesOf(grids.get(g).rule)) {
            return BAD;
        }
        int sum = 0;
        for (int[] row : grids.get(g).cells) {
            for (int state : row) {
                sum += state == v ? 1 : 0;
            }
        }
        return sum;
    }

    int reversible(int r) {
        if (!isRule(r)) {
            return BAD;
        }
        if (!isBlockRule(r)) {
            return NOT;
        }
        Set<String> images = new HashSet<>();
        for (String block : blocks(r)) {
            images.add(image(r, block));
        }
        return images.size() == blocks(r).size() ? 1 : 0;
    }

    int clash(int r, int which) {
        if (!isRule(r) || which < 0 || which > 1) {
            return BAD;
        }
        if (reversible(r) != 0) {
            return NOT;
        }
        List<String> blocks = blocks(r);
        for (int u = 0; u < blocks.size(); u++) {
            for (int v = u + 1; v < blocks.size(); v++) {
                if (image(r, blocks.get(u)).equals(image(r, blocks.get(v)))) {
                    return which == 0 ? u : v;
                }
            }
        }
        return -99;
    }

    int weights(int r) {
        int answer = reversible(r);
        return answer < 0 ? answer : basis(r).size();
    }

    int weight(int r, int k, int v) {
        if (!isRule(r) || !isBlockRule(r) || v < 0 || v >= statesOf(r) || k < 0 || k >= basis(r).size()) {
            return 0;
        }
        return basis(r).get(k)[v].intValueExact();
    }

    /** The basis from the words: of each leading state the only weights that are 0 where they have to be. */
    private List<BigInteger[]> basis(int r) {
        int states = statesOf(r);
        Set<List<Integer>> changes = new HashSet<>();
        for (String block : blocks(r)) {
            List<Integer> change = new ArrayList<>();
            for (int v = 0; v < states; v++) {
                change.add(times(block, v) - times(image(r, block), v));
            }
            changes.add(change);
        }
        TreeSet<Integer> leading = new TreeSet<>();
        for (int v = 0; v < states; v++) {
            // The weights that are 0 below v are more than those that are 0 below v + 1 just if v is leading.
            if (rank(changes, states, zerosBelow(v)) < rank(changes, states, zerosBelow(v + 1))) {
                leading.add(v);
            }
        }
        List<BigInteger[]> basis = new ArrayList<>();
        for (int v : leading) {
            Set<Integer> zeros = zerosBelow(v);
            zeros.addAll(leading);
            zeros.remove(v);
            basis.add(onlyWeights(changes, states, zeros, v));
        }
        return basis;
    }

    private static int times(String block, int v) {
        return (int) block.chars().filter(c -> c == '0' + v).count();
    }

    private static Set<Integer> zerosBelow(int v) {
        Set<Integer> zeros = new HashSet<>();
        for (int k = 0; k < v; k++) {
            zeros.add(k);
        }
        return zeros;
    }

    private static int rank(Set<List<Integer>> changes, int states, Set<Integer> zeros) {
        return solved(changes, states, zeros).size();
    }

    /** Rows of ratios, each with its first 1 in a column in which all others have 0. */
    private static List<Ratio[]> solved(Set<List<Integer>> changes, int states, Set<Integer> zeros) {
        List<Ratio[]> rows = new ArrayList<>();
        for (List<Integer> change : changes) {
            Ratio[] row = new Ratio[states];
            for (int v = 0; v < states; v++) {
                row[v] = new Ratio(BigInteger.valueOf(change.get(v)), BigInteger.ONE);
            }
            rows.add(row);
        }
        for (int zero : zeros) {
            Ratio[] row = new Ratio[states];
            for (int v = 0; v < states; v++) {
                row[v] = new Ratio(v == zero ? BigInteger.ONE : BigInteger.ZERO, BigInteger.ONE);
            }
            rows.add(row);
        }
        List<Ratio[]> done = new ArrayList<>();
        for (int column = 0; column < states; column++) {
            Ratio[] pivot = null;
            for (Ratio[] row : rows) {
                pivot = pivot == null && !row[column].isZero() ? row : pivot;
            }
            if (pivot == null) {
                continue;
            }
            rows.remove(pivot);
            Ratio by = pivot[column];
            for (int v = 0; v < states; v++) {
                pivot[v] = pivot[v].over(by);
            }
            List<Ratio[]> others = new ArrayList<>(rows);
            others.addAll(done);
            for (Ratio[] row : others) {
                Ratio factor = row[column];
                for (int v = 0; v < states; v++) {
                    row[v] = row[v].minus(factor.by(pivot[v]));
                }
            }
            done.add(pivot);
        }
        return done;
    }

    private static BigInteger[] onlyWeights(Set<List<Integer>> changes, int states, Set<Integer> zeros, int leading) {
        Ratio[] weights = new Ratio[states];
        BigInteger denominators = BigInteger.ONE;
        // With the leading state's column at the end it is the only free one.
        Set<List<Integer>> rolled = new HashSet<>();
        for (List<Integer> change : changes) {
            rolled.add(swapped(change, leading, states - 1));
        }
        Set<Integer> rolledZeros = new HashSet<>();
        for (int zero : zeros) {
            rolledZeros.add(zero == states - 1 ? leading : zero);
        }
        List<Ratio[]> rows = solved(rolled, states, rolledZeros);
        if (rows.size() != states - 1) {
            throw new IllegalStateException("the weights of a leading state are not the only ones");
        }
        weights[states - 1] = new Ratio(BigInteger.ONE, BigInteger.ONE);
        for (int v = 0; v < states - 1; v++) {
            weights[v] = new Ratio(BigInteger.ZERO, BigInteger.ONE).minus(rows.get(v)[states - 1]);
            denominators = denominators.multiply(weights[v].under());
        }
        BigInteger[] whole = new BigInteger[states];
        BigInteger common = BigInteger.ZERO;
        for (int v = 0; v < states; v++) {
            whole[v] = weights[v].upper().multiply(denominators).divide(weights[v].under());
            common = common.gcd(whole[v]);
        }
        for (int v = 0; v < states; v++) {
            whole[v] = whole[v].divide(common);
        }
        BigInteger last = whole[states - 1];
        whole[states - 1] = whole[leading];
        whole[leading] = last;
        return whole;
    }

    private static List<Integer> swapped(List<Integer> row, int a, int b) {
        List<Integer> other = new ArrayList<>(row);
        other.set(a, row.get(b));
        other.set(b, row.get(a));
        return other;
    }

    private record Ratio(BigInteger upper, BigInteger under) {
        Ratio {
            BigInteger common = upper.gcd(under);
            common = under.signum() < 0 ? common.negate() : common;
            upper = upper.divide(common);
            under = under.divide(common);
        }

        boolean isZero() {
            return upper.signum() == 0;
        }

        Ratio minus(Ratio other) {
            return new Ratio(upper.multiply(other.under).subtract(other.upper.multiply(under)),
                    under.multiply(other.under));
        }

        Ratio by(Ratio other) {
            return new Ratio(upper.multiply(other.upper), under.multiply(other.under));
        }

        Ratio over(Ratio other) {
            return new Ratio(upper.multiply(other.under), under.multiply(other.upper));
        }
    }

    int count(int what) {
        int[] counts = {rules.size(), fields.size(), grids.size(), searches, hits.size(), tape.length()};
        return what >= 0 && what < counts.length ? counts[what] : BAD;
    }

    int remove(int kind) {
        if (kind != 1 && kind != 2) {
            return BAD;
        }
        List<?> list = kind == 1 ? fields : grids;
        if (list.isEmpty()) {
            return NOT;
        }
        list.remove(list.size() - 1);
        return list.size();
    }
}
