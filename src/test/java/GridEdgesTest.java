import java.util.Arrays;

/** The boundary cases of promises 23 to 34, sentence by sentence. */
public final class GridEdgesTest {
    private static final int BAD = CellMuseum.BAD;
    private static final int NOT = CellMuseum.NOT;
    private static final int FULL = CellMuseum.FULL;
    private static final String LIFE = "B3/S23/M";
    private static final int[] FAR = {Integer.MIN_VALUE, Integer.MIN_VALUE + 1, -1002, 1002, Integer.MAX_VALUE};

    public static void main(String[] args) {
        newGrids();
        sidesOfGrids();
        rulesOfGrids();
        eightGrids();
        setting();
        noSuchCellOrState();
        shares();
        seeds();
        notBelowTheShare();
        fillingNoGrid();
        blocksByTheirNumbers();
        blocksOfEvenGenerations();
        blocksThatWrap();
        smallestGrid();
        stepsBack();
        notBack();
        howManySteps();
        amounts();
        reversibleRules();
        rulesThatAreNot();
        clashes();
        noClashes();
        basisOfAll();
        basisOfOne();
        basisInWholeNumbers();
        basisOfEachRule();
        noWeights();
        noSuchWeight();
        counts();
        removing();
        Check.end("GridEdgesTest");
    }

    private static String turning(int states) {
        return Check.blockText(states, Check.quarterTurn(states));
    }

    private static CellMuseum grid(String rule, int rows, int columns) {
        CellMuseum m = Check.with(rule);
        Check.due("grid(0, " + rows + ", " + columns + ")", m.grid(0, rows, columns), 0);
        return m;
    }

    private static int[] cells(CellMuseum m, int g, int rows, int columns) {
        int[] cells = new int[rows * columns];
        for (int k = 0; k < cells.length; k++) {
            cells[k] = m.cell(g, k / columns, k % columns);
        }
        return cells;
    }

    // ---- grid, set, cell

    private static void newGrids() {
        Check.sentence("cells at (i, j), row i, column j, from 0 on, all 0 at first; generation 0");
        CellMuseum m = grid(turning(4), 16, 16);
        Check.due("amount(0, 0)", m.amount(0, 0), 256);
        Check.due("go(0, -1)", m.go(0, -1), NOT);
        m.fill(0, 1, 100);
        m.go(0, 5);
        m.remove(2);
        Check.due("a grid in the place of one that went", m.grid(0, 16, 14), 0);
        Check.due("amount(0, 0)", m.amount(0, 0), 224);
        Check.due("go(0, -1)", m.go(0, -1), NOT);
        Check.due("go(0, 1)", m.go(0, 1), 1);
    }

    private static void sidesOfGrids() {
        Check.sentence("BAD: there is no RULE r, rows or columns are not as said.");
        CellMuseum m = Check.with(turning(2));
        for (int side = -2; side <= 19; side++) {
            boolean good = side >= 2 && side <= 16 && side % 2 == 0;
            int[][] sides = {{side, 2}, {side, 16}, {2, side}, {16, side}};
            for (int[] s : sides) {
                Check.due("grid(0, " + s[0] + ", " + s[1] + ")", m.grid(0, s[0], s[1]), good ? 0 : BAD);
                if (good) {
                    Check.due("amount(0, 0)", m.amount(0, 0), s[0] * s[1]);
                    Check.due("remove(2)", m.remove(2), 0);
                }
            }
        }
        for (int far : FAR) {
            Check.due("grid(0, " + far + ", 2)", m.grid(0, far, 2), BAD);
            Check.due("grid(0, 2, " + far + ")", m.grid(0, 2, far), BAD);
            Check.due("grid(" + far + ", 2, 2)", m.grid(far, 2, 2), BAD);
        }
        Check.due("grid(1, 2, 2)", m.grid(1, 2, 2), BAD);
        Check.due("grid(-1, 2, 2)", m.grid(-1, 2, 2), BAD);
        Check.due("grid without rules", new CellMuseum().grid(0, 2, 2), BAD);
        Check.due("count(2)", m.count(2), 0);
    }

    private static void rulesOfGrids() {
        Check.sentence("NOT: it is no BLOCK RULE.");
        String[] others = {LIFE, "B/S/V", "B0/S/X"};
        for (String other : others) {
            CellMuseum m = Check.with(other);
            Check.due("grid of " + other, m.grid(0, 2, 2), NOT);
            Check.due("BAD comes before NOT", m.grid(0, 2, 3), BAD);
            Check.due("BAD comes before NOT", m.grid(0, 0, 2), BAD);
            Check.due("count(2)", m.count(2), 0);
        }
        for (int states = 2; states <= 4; states++) {
            grid("K" + states + "0".repeat(4 * states * states * states * states), 2, 2);
        }
    }

    private static void eightGrids() {
        Check.sentence("GRIDS (8)");
        CellMuseum m = Check.with(turning(3));
        Check.rule(m, LIFE);
        for (int g = 0; g < 8; g++) {
            Check.due("no grid " + g, m.cell(g, 0, 0), BAD);
            Check.due("grid " + g, m.grid(0, 2, 2), g);
        }
        Check.due("grid 8", m.grid(0, 2, 2), FULL);
        Check.due("grid 8 again", m.grid(0, 16, 16), FULL);
        Check.due("count(2)", m.count(2), 8);
        Check.due("cell(8, 0, 0)", m.cell(8, 0, 0), BAD);
        Check.due("the last is there", m.set(7, 1, 1, 2), 0);
        Check.due("NOT comes before FULL", m.grid(1, 2, 2), NOT);
        Check.due("BAD comes before FULL", m.grid(0, 2, 1), BAD);
        Check.due("BAD comes before FULL", m.grid(2, 2, 2), BAD);
        Check.due("fields have room of their own", m.field(1), 0);
        Check.due("remove(2)", m.remove(2), 7);
        Check.due("there is room again", m.grid(0, 4, 4), 7);
        Check.due("and then none", m.grid(0, 4, 4), FULL);
    }

    private static void setting() {
        Check.sentence("A cell of a GRID becomes v: what it was.");
        for (int states = 2; states <= 4; states++) {
            CellMuseum m = grid(turning(states), 16, 4);
            m.grid(0, 4, 16);
            int[][] corners = {{0, 0}, {0, 3}, {15, 0}, {15, 3}};
            for (int[] c : corners) {
                int was = 0;
                for (int v = states - 1; v >= 0; v--) {
                    Check.due("set to " + v, m.set(0, c[0], c[1], v), was);
                    Check.due("cell", m.cell(0, c[0], c[1]), v);
                    was = v;
                }
                m.set(0, c[0], c[1], states - 1);
            }
            Check.due("amount(0, " + (states - 1) + ")", m.amount(0, states - 1), 4);
            Check.due("the other grid", m.amount(1, 0), 64);
            Check.due("the generation stays", m.go(0, 1), 1);
        }
    }

    private static void noSuchCellOrState() {
        Check.sentence("BAD: there is no such grid, cell, state.");
        for (int states = 2; states <= 4; states++) {
            CellMuseum m = grid(turning(states), 4, 8);
            int[][] none = {{0, 4, 0}, {0, -1, 0}, {0, 0, 8}, {0, 0, -1}, {0, 7, 3}, {0, 4, 8}, {1, 0, 0}, {-1, 0, 0},
                {8, 0, 0}};
            for (int[] n : none) {
                Check.due("set", m.set(n[0], n[1], n[2], 1), BAD);
                Check.due("set to 0", m.set(n[0], n[1], n[2], 0), BAD);
                Check.due("cell", m.cell(n[0], n[1], n[2]), BAD);
            }
            for (int far : FAR) {
                Check.due("set(" + far + ", 0, 0, 1)", m.set(far, 0, 0, 1), BAD);
                Check.due("set(0, " + far + ", 0, 1)", m.set(0, far, 0, 1), BAD);
                Check.due("set(0, 0, " + far + ", 1)", m.set(0, 0, far, 1), BAD);
                Check.due("set(0, 0, 0, " + far + ")", m.set(0, 0, 0, far), BAD);
                Check.due("cell(" + far + ", 0, 0)", m.cell(far, 0, 0), BAD);
                Check.due("cell(0, " + far + ", 0)", m.cell(0, far, 0), BAD);
                Check.due("cell(0, 0, " + far + ")", m.cell(0, 0, far), BAD);
            }
            Check.due("set to -1", m.set(0, 0, 0, -1), BAD);
            Check.due("set to " + states, m.set(0, 0, 0, states), BAD);
            Check.due("amount(0, 0)", m.amount(0, 0), 32);
            Check.due("the last cell", m.set(0, 3, 7, states - 1), 0);
        }
    }

    // ---- fill

    private static void shares() {
        Check.sentence("FILLING by a seed (an int, as 32 bits) and a share 0 .. 100");
        for (int states = 2; states <= 4; states++) {
            CellMuseum m = grid(turning(states), 16, 16);
            m.set(0, 5, 5, 1);
            Check.due("share 0", m.fill(0, 77, 0), 0);
            Check.due("amount(0, 0)", m.amount(0, 0), 256);
            Check.due("share 100", m.fill(0, 77, 100), 256);
            Check.due("amount(0, 0)", m.amount(0, 0), 0);
            int sum = 0;
            for (int v = 1; v < states; v++) {
                Check.due("some have state " + v, m.amount(0, v) > 0);
                sum += m.amount(0, v);
            }
            Check.due("all others", sum, 256);
            int some = m.fill(0, 77, 1);
            Check.due("share 1", some, 256 - m.amount(0, 0));
            int most = m.fill(0, 77, 99);
            Check.due("share 99", most, 256 - m.amount(0, 0));
            Check.due("they are more", some < most);
        }
    }

    private static int[] filling(int states, int seed, int share, int many) {
        int[] cells = new int[many];
        long t = Integer.toUnsignedLong(seed);
        for (int k = 0; k < many; k++) {
            t = (t * 1664525L + 1013904223L) % (1L << 32);
            long u = t / 65536;
            cells[k] = u % 100 >= share ? 0 : (int) (1 + u / 100 % (states - 1));
        }
        return cells;
    }

    private static void seeds() {
        Check.sentence("T becomes T * 1664525 + 1013904223, as 32 bits; u is T's upper 16 bits as a number from 0 on");
        int[] seeds = {0, 1, -1, Integer.MIN_VALUE, Integer.MAX_VALUE, 0x7fff0000, 0x80000001, 0xffff0000};
        for (int states = 2; states <= 4; states++) {
            for (int seed : seeds) {
                CellMuseum m = grid(turning(states), 2, 16);
                int[] want = filling(states, seed, 50, 32);
                int others = 0;
                for (int state : want) {
                    others += state == 0 ? 0 : 1;
                }
                Check.due("fill(0, " + seed + ", 50)", m.fill(0, seed, 50), others);
                Check.same("the cells of seed " + seed, Arrays.toString(cells(m, 0, 2, 16)), Arrays.toString(want));
            }
        }
        Check.sentence("A GRID is FILLED (its generation stays)");
        CellMuseum m = grid(turning(2), 2, 2);
        m.go(0, 3);
        m.fill(0, 9, 50);
        Check.due("go(0, -3)", m.go(0, -3), 0);
    }

    /** Seeds whose first u has a rest of the share's, and of one less. */
    private static void notBelowTheShare() {
        Check.sentence("the cell is 0 if u % 100 is not below the share, else 1 + (u / 100) % (S - 1)");
        for (int seed = 0; seed < 40; seed++) {
            long t = (seed * 1664525L + 1013904223L) % (1L << 32);
            int rest = (int) (t / 65536 % 100);
            CellMuseum m = grid(turning(2), 2, 2);
            m.fill(0, seed, rest);
            Check.due("u % 100 is the share", m.cell(0, 0, 0), 0);
            m.fill(0, seed, rest + 1);
            Check.due("u % 100 is one less than the share", m.cell(0, 0, 0), 1);
        }
    }

    private static void fillingNoGrid() {
        Check.sentence("BAD: there is no grid g, the share is not as said.");
        CellMuseum m = grid(turning(3), 4, 4);
        m.set(0, 0, 0, 2);
        Check.due("share -1", m.fill(0, 1, -1), BAD);
        Check.due("share 101", m.fill(0, 1, 101), BAD);
        Check.due("grid 1", m.fill(1, 1, 50), BAD);
        Check.due("grid -1", m.fill(-1, 1, 50), BAD);
        for (int far : FAR) {
            Check.due("share " + far, m.fill(0, 1, far), BAD);
            Check.due("grid " + far, m.fill(far, 1, 50), BAD);
        }
        Check.due("amount(0, 0)", m.amount(0, 0), 15);
        Check.due("cell(0, 0, 0)", m.cell(0, 0, 0), 2);
    }

    // ---- go

    private static void blocksByTheirNumbers() {
        Check.sentence("upper left a, upper right b, lower left c, lower right d; its number is"
                + " ((a S + b) S + c) S + d.");
        int[][] blocks = {{0, 0, 0, 0}, {0, 0, 0, 1}, {0, 0, 1, 0}, {0, 1, 0, 0}, {1, 0, 0, 0}, {1, 1, 1, 1}};
        for (int states = 2; states <= 4; states++) {
            for (int[] b : blocks) {
                // Each state is made as great as may be; only this block becomes another: 0, 1, 0, 0, or 1, 0, 1, 1.
                int most = states - 1;
                int number = block(states, b[0] * most, b[1] * most, b[2] * most, b[3] * most);
                int[] image = Check.identity(states);
                image[number] = b[1] == 0 ? block(states, 0, 1, 0, 0) : block(states, 1, 0, 1, 1);
                CellMuseum m = grid(Check.blockText(states, image), 2, 2);
                for (int k = 0; k < 4; k++) {
                    m.set(0, k / 2, k % 2, b[k] * most);
                }
                Check.due("go(0, 1)", m.go(0, 1), 1);
                Check.same("block " + number + " of " + states, Arrays.toString(cells(m, 0, 2, 2)),
                        b[1] == 0 ? "[0, 1, 0, 0]" : "[1, 0, 1, 1]");
            }
        }
    }

    private static void blocksOfEvenGenerations() {
        Check.sentence("at an even generation blocks have their upper left cell at even rows and columns");
        // A block becomes all 1 just if its upper left cell is 1.
        int[] image = new int[16];
        Arrays.fill(image, 8, 16, 15);
        CellMuseum m = grid(Check.blockText(2, image), 4, 6);
        m.set(0, 2, 4, 1);
        m.go(0, 1);
        Check.same("the cells", Arrays.toString(cells(m, 0, 4, 6)),
                Arrays.toString(new int[] {0, 0, 0, 0, 0, 0, 0, 0, 0, 0, 0, 0, 0, 0, 0, 0, 1, 1, 0, 0, 0, 0, 1, 1}));
        // Now the cell at (3, 5) is the upper left one of the block at the corner, which wraps both ways.
        Check.sentence("at an odd one at odd ones (those at the rims wrap)");
        m.go(0, 1);
        Check.same("the cells", Arrays.toString(cells(m, 0, 4, 6)),
                Arrays.toString(new int[] {1, 0, 0, 0, 0, 1, 0, 0, 0, 0, 0, 0, 0, 0, 0, 0, 0, 0, 1, 0, 0, 0, 0, 1}));
    }

    private static void blocksThatWrap() {
        Check.sentence("those at the rims wrap");
        int[] sides = {0, 1, 6, 7, 14, 15};
        for (int i : sides) {
            for (int j : sides) {
                CellMuseum m = grid(turning(4), 16, 16);
                m.go(0, 1);
                m.set(0, i, j, 3);
                m.go(0, 1);
                int[] to = turnedAtOddPlaces(i, j);
                Check.due("from " + i + ", " + j, m.cell(0, to[0], to[1]), 3);
                Check.due("all others are 0", m.amount(0, 0), 255);
            }
        }
    }

    /** Where a quarter turn of the blocks at odd rows and columns of a grid of 16 by 16 takes a cell. */
    private static int[] turnedAtOddPlaces(int i, int j) {
        boolean isUpper = i % 2 == 1;
        boolean isLeft = j % 2 == 1;
        if (isUpper) {
            return isLeft ? new int[] {i, (j + 1) % 16} : new int[] {(i + 1) % 16, j};
        }
        return isLeft ? new int[] {(i + 15) % 16, j} : new int[] {i, (j + 15) % 16};
    }

    private static void smallestGrid() {
        Check.sentence("2 to 16 rows and columns, both even, and wrap round");
        CellMuseum m = grid(turning(4), 2, 2);
        m.set(0, 0, 0, 1);
        m.set(0, 0, 1, 2);
        m.set(0, 1, 0, 3);
        m.go(0, 1);
        Check.same("a turn", Arrays.toString(cells(m, 0, 2, 2)), Arrays.toString(new int[] {3, 1, 0, 2}));
        // The block is then (1, 1), (1, 0), (0, 1), (0, 0): 2 0 1 3, which becomes 1 2 3 0.
        m.go(0, 1);
        Check.same("a turn that wraps", Arrays.toString(cells(m, 0, 2, 2)), Arrays.toString(new int[] {0, 3, 2, 1}));
        CellMuseum wide = grid(turning(2), 2, 16);
        wide.go(0, 1);
        wide.set(0, 1, 15, 1);
        wide.go(0, 1);
        Check.due("upper left to upper right, across the rim", wide.cell(0, 1, 0), 1);
        CellMuseum high = grid(turning(2), 16, 2);
        high.go(0, 1);
        high.set(0, 15, 0, 1);
        high.go(0, 1);
        Check.due("upper right to lower right, across the rim", high.cell(0, 0, 0), 1);
    }

    private static void stepsBack() {
        Check.sentence("the step that leads to what there is undone; the generation is one less");
        for (int states = 2; states <= 4; states++) {
            for (int n = 1; n <= 1000; n += n < 4 ? 1 : 332) {
                CellMuseum m = grid(turning(states), 4, 6);
                m.fill(0, n, 60);
                int[] before = cells(m, 0, 4, 6);
                Check.due("go(0, " + n + ")", m.go(0, n), n);
                Check.due("go(0, -1)", m.go(0, -1), n - 1);
                Check.due("go(0, 1)", m.go(0, 1), n);
                Check.due("go(0, " + -n + ")", m.go(0, -n), 0);
                Check.same("the cells", Arrays.toString(cells(m, 0, 4, 6)), Arrays.toString(before));
            }
        }
    }

    private static void notBack() {
        Check.sentence("NOT: back, and its rule is not REVERSIBLE, or its generation is less than -n.");
        CellMuseum m = grid(turning(2), 4, 4);
        m.fill(0, 3, 50);
        Check.due("go(0, -1) at generation 0", m.go(0, -1), NOT);
        Check.due("go(0, -1000) at generation 0", m.go(0, -1000), NOT);
        m.go(0, 5);
        int[] before = cells(m, 0, 4, 4);
        Check.due("go(0, -6) at generation 5", m.go(0, -6), NOT);
        Check.same("the cells", Arrays.toString(cells(m, 0, 4, 4)), Arrays.toString(before));
        Check.due("go(0, -5) at generation 5", m.go(0, -5), 0);
        Check.due("go(0, 1000)", m.go(0, 1000), 1000);
        Check.due("go(0, -1000)", m.go(0, -1000), 0);
        m.go(0, 999);
        Check.due("go(0, -1000) at generation 999", m.go(0, -1000), NOT);
        int[] image = Check.identity(2);
        image[15] = 0;
        CellMuseum other = grid(Check.blockText(2, image), 2, 2);
        other.go(0, 5);
        Check.due("go(0, -1) of a rule that is not reversible", other.go(0, -1), NOT);
        Check.due("go(0, -1000)", other.go(0, -1000), NOT);
        Check.due("BAD comes before NOT", other.go(0, -1001), BAD);
        Check.due("the generation stays", other.go(0, 1), 6);
    }

    private static void howManySteps() {
        Check.sentence("n steps forward (n 1 .. 1000), or -n back (n -1 .. -1000): the generation then."
                + " BAD: there is no grid g, n is not as said.");
        CellMuseum m = grid(turning(2), 2, 2);
        Check.due("go(0, 0)", m.go(0, 0), BAD);
        Check.due("go(0, 1001)", m.go(0, 1001), BAD);
        Check.due("go(0, -1001)", m.go(0, -1001), BAD);
        for (int far : FAR) {
            Check.due("go(0, " + far + ")", m.go(0, far), BAD);
            Check.due("go(" + far + ", 1)", m.go(far, 1), BAD);
        }
        Check.due("go(1, 1)", m.go(1, 1), BAD);
        Check.due("go(-1, 1)", m.go(-1, 1), BAD);
        Check.due("go(0, 1)", m.go(0, 1), 1);
        Check.due("go(0, 1000)", m.go(0, 1000), 1001);
        Check.due("go(0, -1000)", m.go(0, -1000), 1);
        for (int k = 1; k <= 200; k++) {
            Check.due("go(0, 1000)", m.go(0, 1000), 1 + 1000 * k);
        }
    }

    private static void amounts() {
        Check.sentence("How many cells of a GRID have state v. BAD: there is no grid g, no state v.");
        for (int states = 2; states <= 4; states++) {
            CellMuseum m = grid(turning(states), 16, 16);
            m.set(0, 15, 15, states - 1);
            Check.due("amount(0, 0)", m.amount(0, 0), 255);
            Check.due("amount of the last state", m.amount(0, states - 1), 1);
            Check.due("amount(0, " + states + ")", m.amount(0, states), BAD);
            Check.due("amount(0, -1)", m.amount(0, -1), BAD);
            Check.due("amount(1, 0)", m.amount(1, 0), BAD);
            Check.due("amount(-1, 0)", m.amount(-1, 0), BAD);
            for (int far : FAR) {
                Check.due("amount(0, " + far + ")", m.amount(0, far), BAD);
                Check.due("amount(" + far + ", 0)", m.amount(far, 0), BAD);
            }
        }
    }

    // ---- reversible, clash

    private static void reversibleRules() {
        Check.sentence("1 if a RULE is REVERSIBLE, else 0.");
        for (int states = 2; states <= 4; states++) {
            int last = states * states * states * states - 1;
            int[] image = Check.identity(states);
            image[0] = last;
            image[last] = 0;
            Check.due("the first and last change places", Check.with(Check.blockText(states, image)).reversible(0), 1);
            image[last] = last;
            Check.due("both become the last", Check.with(Check.blockText(states, image)).reversible(0), 0);
            image[0] = 0;
            image[last] = last - 1;
            Check.due("the last two clash", Check.with(Check.blockText(states, image)).reversible(0), 0);
            Arrays.fill(image, 0);
            Check.due("all become 0", Check.with(Check.blockText(states, image)).reversible(0), 0);
        }
    }

    private static void rulesThatAreNot() {
        Check.sentence("BAD: there is no RULE r. NOT: it is no BLOCK RULE.");
        CellMuseum m = Check.with(LIFE);
        Check.rule(m, "B0/S/V");
        for (int r = 0; r <= 1; r++) {
            Check.due("reversible(" + r + ")", m.reversible(r), NOT);
            Check.due("weights(" + r + ")", m.weights(r), NOT);
            Check.due("clash(" + r + ", 0)", m.clash(r, 0), NOT);
            Check.due("clash(" + r + ", 1)", m.clash(r, 1), NOT);
            Check.due("BAD comes before NOT", m.clash(r, 2), BAD);
            Check.due("BAD comes before NOT", m.clash(r, -1), BAD);
        }
        for (int r : new int[] {-1, 2, 15, 16, Integer.MAX_VALUE, Integer.MIN_VALUE}) {
            Check.due("reversible(" + r + ")", m.reversible(r), BAD);
            Check.due("weights(" + r + ")", m.weights(r), BAD);
            Check.due("clash(" + r + ", 0)", m.clash(r, 0), BAD);
            Check.due("clash(" + r + ", 1)", m.clash(r, 1), BAD);
        }
    }

    private static void clash(int states, int[] image, int u, int v) {
        CellMuseum m = Check.with(Check.blockText(states, image));
        Check.due("clash(0, 0)", m.clash(0, 0), u);
        Check.due("clash(0, 1)", m.clash(0, 1), v);
        Check.due("clash(0, 2)", m.clash(0, 2), BAD);
        Check.due("clash(0, -1)", m.clash(0, -1), BAD);
        for (int far : FAR) {
            Check.due("clash(0, " + far + ")", m.clash(0, far), BAD);
        }
    }

    private static void clashes() {
        Check.sentence("the least block u such that a greater one becomes the same (which = 0), the least such"
                + " greater one"
                + " of u (1).");
        for (int states = 2; states <= 4; states++) {
            int last = states * states * states * states - 1;
            int[] image = Check.identity(states);
            Arrays.fill(image, last);
            clash(states, image, 0, 1);
            image = Check.identity(states);
            image[last] = 0;
            clash(states, image, 0, last);
            image = Check.identity(states);
            image[last - 1] = last;
            clash(states, image, last - 1, last);
            // Three become the same, and two others that are nearer to one another but greater.
            image = Check.identity(states);
            image[last] = 2;
            image[last - 3] = 2;
            image[5] = 6;
            clash(states, image, 2, last - 3);
        }
        // The greater one of the least u is not the least of all that clash.
        int[] image = Check.identity(2);
        image[1] = 12;
        image[3] = 4;
        clash(2, image, 1, 12);
    }

    private static void noClashes() {
        Check.sentence("NOT: it is no BLOCK RULE, or it is REVERSIBLE.");
        for (int states = 2; states <= 4; states++) {
            CellMuseum m = Check.with(turning(states));
            Check.due("clash(0, 0)", m.clash(0, 0), NOT);
            Check.due("clash(0, 1)", m.clash(0, 1), NOT);
            Check.due("BAD comes before NOT", m.clash(0, 2), BAD);
            Check.due("BAD comes before NOT", m.clash(0, -1), BAD);
        }
    }

    // ---- weights

    private static void basis(String rule, int[]... rows) {
        CellMuseum m = Check.with(rule);
        Check.due("weights(0)", m.weights(0), rows.length);
        for (int k = 0; k < rows.length; k++) {
            for (int v = 0; v < rows[k].length; v++) {
                Check.due("weight(0, " + k + ", " + v + ")", m.weight(0, k, v), rows[k][v]);
            }
            Check.due("no more states", m.weight(0, k, rows[k].length), 0);
            Check.due("none less than 0", m.weight(0, k, -1), 0);
        }
        for (int v = 0; v < 4; v++) {
            Check.due("no more weights", m.weight(0, rows.length, v), 0);
            Check.due("none less than 0", m.weight(0, -1, v), 0);
        }
    }

    private static int block(int states, int a, int b, int c, int d) {
        return ((a * states + b) * states + c) * states + d;
    }

    private static void basisOfAll() {
        Check.sentence("The BASIS: for each leading state, these rising, the conserved weights that are 0 for all less"
                + " states and all other leading ones");
        basis(turning(2), new int[] {1, 0}, new int[] {0, 1});
        basis(turning(3), new int[] {1, 0, 0}, new int[] {0, 1, 0}, new int[] {0, 0, 1});
        basis(turning(4), new int[] {1, 0, 0, 0}, new int[] {0, 1, 0, 0}, new int[] {0, 0, 1, 0},
                new int[] {0, 0, 0, 1});
        Check.sentence("A state is LEADING if there are conserved weights that are 0 for all states less than"
                + " it, and not"
                + " 0 for it.");
        // States 2 and 3 weigh the same; the last leading state is 2.
        int[] image = Check.identity(4);
        image[block(4, 0, 0, 0, 3)] = block(4, 0, 0, 0, 2);
        basis(Check.blockText(4, image), new int[] {1, 0, 0, 0}, new int[] {0, 1, 0, 0}, new int[] {0, 0, 1, 1});
        // States 0 and 1 weigh the same: 1 is not leading, but 2 and 3 are.
        image = Check.identity(4);
        image[block(4, 0, 0, 0, 1)] = 0;
        basis(Check.blockText(4, image), new int[] {1, 1, 0, 0}, new int[] {0, 0, 1, 0}, new int[] {0, 0, 0, 1});
        // States 0 and 3 weigh the same.
        image = Check.identity(4);
        image[0] = block(4, 3, 3, 3, 3);
        basis(Check.blockText(4, image), new int[] {1, 0, 0, 1}, new int[] {0, 1, 0, 0}, new int[] {0, 0, 1, 0});
    }

    private static void basisOfOne() {
        Check.sentence("They are CONSERVED if for each block the weights of its four states are together as"
                + " much as those"
                + " of the four of what it becomes.");
        // Four cells become four cells always, so that weights that are all the same are conserved by any rule.
        basis("K2" + "0".repeat(64), new int[] {1, 1});
        basis("K3" + "2".repeat(324), new int[] {1, 1, 1});
        basis("K4" + "0123".repeat(256), new int[] {1, 1, 1, 1});
        basis("K4" + "3".repeat(1024), new int[] {1, 1, 1, 1});
        // The last block alone tells it.
        int[] image = Check.identity(2);
        image[15] = 14;
        basis(Check.blockText(2, image), new int[] {1, 1});
    }

    private static void basisInWholeNumbers() {
        Check.sentence("whole numbers without a common divisor, that of the leading state above 0");
        // 4 w0 = 3 w1 + w2, so w2 = 4 w0 - 3 w1.
        int[] image = Check.identity(3);
        image[0] = block(3, 1, 1, 1, 2);
        basis(Check.blockText(3, image), new int[] {1, 0, 4}, new int[] {0, 1, -3});
        // w0 + 3 w1 = 4 w2.
        image = Check.identity(3);
        image[block(3, 0, 1, 1, 1)] = block(3, 2, 2, 2, 2);
        basis(Check.blockText(3, image), new int[] {4, 0, 1}, new int[] {0, 4, 3});
        // 2 w0 + 2 w1 = 4 w2 has a common divisor.
        image = Check.identity(3);
        image[block(3, 0, 0, 1, 1)] = block(3, 2, 2, 2, 2);
        basis(Check.blockText(3, image), new int[] {2, 0, 1}, new int[] {0, 2, 1});
        // 4 w1 = 3 w0 + w2 and 4 w2 = 3 w0 + w3: w2 = 4 w1 - 3 w0, w3 = 16 w1 - 15 w0.
        image = Check.identity(4);
        image[block(4, 1, 1, 1, 1)] = block(4, 0, 0, 0, 2);
        image[block(4, 2, 2, 2, 2)] = block(4, 0, 0, 0, 3);
        basis(Check.blockText(4, image), new int[] {1, 0, -3, -15}, new int[] {0, 1, 4, 16});
        // 4 w3 = 3 w0 + w2 and 4 w2 = 3 w0 + w1: w2 = (3 w0 + w1) / 4, w3 = (15 w0 + w1) / 16.
        image = Check.identity(4);
        image[block(4, 3, 3, 3, 3)] = block(4, 0, 0, 0, 2);
        image[block(4, 2, 2, 2, 2)] = block(4, 0, 0, 0, 1);
        basis(Check.blockText(4, image), new int[] {16, 0, 12, 15}, new int[] {0, 16, 4, 1});
        // 4 w1 = 4 w2 = w0 + 3 w3: 1 is leading, 2 and 3 are not.
        image = Check.identity(4);
        image[block(4, 1, 1, 1, 1)] = block(4, 2, 2, 2, 2);
        image[block(4, 2, 2, 2, 2)] = block(4, 0, 3, 3, 3);
        basis(Check.blockText(4, image), new int[] {3, 0, 0, -1}, new int[] {0, 3, 3, 4});
    }

    private static void basisOfEachRule() {
        Check.sentence("How many weights the BASIS of a BLOCK RULE has.");
        // Whatever rules were made before, and of how many states.
        int[] heavy = Check.identity(3);
        heavy[0] = block(3, 1, 1, 1, 2);
        int[] alike = Check.identity(4);
        alike[block(4, 0, 0, 0, 3)] = block(4, 0, 0, 0, 2);
        String[] rules = {"K4" + "3".repeat(1024), turning(4), Check.blockText(3, heavy), "K2" + "0".repeat(64),
            Check.blockText(4, alike), turning(2), "K3" + "2".repeat(324), turning(3)};
        int[][] due = {{1, 1, 1, 1}, {1, 0, 0, 0}, {1, 0, 4, 0}, {1, 1, 0, 0}, {1, 0, 0, 0}, {1, 0, 0, 0}, {1, 1, 1, 0},
            {1, 0, 0, 0}};
        int[] sizes = {1, 4, 2, 1, 3, 2, 1, 3};
        for (int first = 0; first < rules.length; first++) {
            CellMuseum m = new CellMuseum();
            for (int r = 0; r < rules.length; r++) {
                Check.due("rule()", Check.rule(m, rules[(first + r) % rules.length]), r);
            }
            for (int r = 0; r < rules.length; r++) {
                int k = (first + r) % rules.length;
                Check.due("weights(" + r + ")", m.weights(r), sizes[k]);
                for (int v = 0; v < 4; v++) {
                    Check.due("weight(" + r + ", 0, " + v + ")", m.weight(r, 0, v), due[k][v]);
                }
            }
        }
    }

    private static void noWeights() {
        Check.sentence("How many weights the BASIS of a BLOCK RULE has. BAD, NOT: as reversible().");
        CellMuseum m = Check.with(LIFE);
        Check.rule(m, turning(4));
        Check.due("weights(0)", m.weights(0), NOT);
        Check.due("weights(1)", m.weights(1), 4);
        Check.due("weights(2)", m.weights(2), BAD);
        Check.due("weights(-1)", m.weights(-1), BAD);
        Check.due("weights without rules", new CellMuseum().weights(0), BAD);
    }

    private static void noSuchWeight() {
        Check.sentence("0 if there is none such (no RULE, too).");
        CellMuseum m = Check.with(LIFE);
        Check.rule(m, turning(2));
        for (int r : new int[] {-1, 0, 2, 16, Integer.MIN_VALUE, Integer.MAX_VALUE}) {
            for (int k = 0; k < 2; k++) {
                Check.due("weight(" + r + ", " + k + ", " + k + ")", m.weight(r, k, k), 0);
            }
        }
        for (int far : new int[] {-1, 2, 3, 4, 1000, Integer.MIN_VALUE, Integer.MAX_VALUE}) {
            Check.due("weight(1, " + far + ", 0)", m.weight(1, far, 0), 0);
            Check.due("weight(1, " + far + ", 1)", m.weight(1, far, 1), 0);
            Check.due("weight(1, 0, " + far + ")", m.weight(1, 0, far), 0);
            Check.due("weight(1, 1, " + far + ")", m.weight(1, 1, far), 0);
        }
        Check.due("weight(1, 1, 1)", m.weight(1, 1, 1), 1);
        Check.due("weight without rules", new CellMuseum().weight(0, 0, 0), 0);
    }

    // ---- count and remove

    private static void counts() {
        Check.sentence("How many: 0 RULES, 1 FIELDS, 2 GRIDS, 3 searches done, 4 what was found by the latest"
                + " one, 5 bytes"
                + " of the TAPE. BAD: another what.");
        CellMuseum m = new CellMuseum();
        for (int r = 0; r < 15; r++) {
            Check.rule(m, LIFE);
        }
        Check.rule(m, turning(2));
        for (int k = 0; k < 8; k++) {
            m.field(0);
            m.grid(15, 2, 2);
        }
        for (int k = 0; k < 30; k++) {
            m.still(0, 1, 1);
        }
        for (int k = 0; k < 100; k++) {
            m.feed(0, 0, 0, 0, 0);
        }
        int[] due = {16, 8, 8, 30, 1, 2000};
        for (int what = 0; what <= 5; what++) {
            Check.due("count(" + what + ")", m.count(what), due[what]);
        }
        Check.due("count(-1)", m.count(-1), BAD);
        Check.due("count(6)", m.count(6), BAD);
        for (int far : FAR) {
            Check.due("count(" + far + ")", m.count(far), BAD);
        }
        m.remove(1);
        m.remove(2);
        Check.due("count(1)", m.count(1), 7);
        Check.due("count(2)", m.count(2), 7);
        m.end(1999);
        Check.due("count(5)", m.count(5), 1999);
        m.rule();
        Check.due("count(5)", m.count(5), 0);
        CellMuseum many = Check.with("B/S012345678/M");
        many.still(0, 4, 4);
        Check.due("count(4)", many.count(4), 65536);
        many.still(0, 17, 1);
        Check.due("count(4) after BAD", many.count(4), 65536);
    }

    private static void removing() {
        Check.sentence("The field, grid (kind 1, 2) that was made last goes: how many are left.");
        CellMuseum m = Check.with(turning(2));
        Check.rule(m, LIFE);
        for (int k = 0; k < 8; k++) {
            m.field(1);
            m.grid(0, 2, 2);
            m.put(k, k, k, 1);
            m.set(k, 0, k % 2, 1);
        }
        for (int left = 7; left >= 0; left--) {
            Check.due("remove(1)", m.remove(1), left);
            Check.due("the field is gone", m.about(left, 0), BAD);
            Check.due("remove(2)", m.remove(2), left);
            Check.due("the grid is gone", m.amount(left, 0), BAD);
            if (left > 0) {
                Check.due("the field before it stays", m.at(left - 1, left - 1, left - 1), 1);
                Check.due("the grid before it stays", m.cell(left - 1, 0, (left - 1) % 2), 1);
            }
        }
        Check.sentence("BAD: another kind. NOT: there is none.");
        Check.due("remove(1)", m.remove(1), NOT);
        Check.due("remove(2)", m.remove(2), NOT);
        Check.due("remove(0)", m.remove(0), BAD);
        Check.due("remove(3)", m.remove(3), BAD);
        Check.due("remove(-1)", m.remove(-1), BAD);
        for (int far : FAR) {
            Check.due("remove(" + far + ")", m.remove(far), BAD);
        }
        Check.due("rules stay", m.count(0), 2);
        Check.due("numbers begin at 0 again", m.field(1), 0);
        Check.due("numbers begin at 0 again", m.grid(0, 2, 2), 0);
        Check.due("a field is no grid", m.remove(2), 0);
        Check.due("a field is no grid", m.remove(2), NOT);
        Check.due("a field is no grid", m.remove(1), 0);
    }
}
