/** Promises 23 to 34: grid, set, cell, fill, go, amount, reversible, clash, weights, weight, count, remove. */
public final class GridTest {
    public static void main(String[] args) {
        grids();
        setAndCell();
        filling();
        goingForward();
        goingBack();
        goRefusals();
        amounts();
        reversibility();
        conservedWeights();
        noWeights();
        counts();
        removing();
        Check.end("GridTest");
    }

    private static CellMuseum turning(int states) {
        return Check.with(Check.blockText(states, Check.quarterTurn(states)));
    }

    private static void grids() {
        CellMuseum m = turning(2);
        Check.rule(m, "B3/S23/M");
        int[][] sides = {{0, 2}, {2, 0}, {1, 2}, {2, 3}, {18, 2}, {2, 18}, {-2, 4}, {15, 16}, {2, Integer.MIN_VALUE}};
        for (int[] side : sides) {
            Check.due("grid of " + side[0] + ", " + side[1], m.grid(0, side[0], side[1]), CellMuseum.BAD);
            Check.due("BAD comes before NOT", m.grid(1, side[0], side[1]), CellMuseum.BAD);
        }
        Check.due("grid(2, 2, 2)", m.grid(2, 2, 2), CellMuseum.BAD);
        Check.due("grid(-1, 2, 2)", m.grid(-1, 2, 2), CellMuseum.BAD);
        Check.due("grid of a count rule", m.grid(1, 2, 2), CellMuseum.NOT);
        for (int k = 0; k < 8; k++) {
            Check.due("grid " + k, m.grid(0, 2 + 2 * k, 16 - 2 * k), k);
        }
        Check.due("grid 8", m.grid(0, 2, 2), CellMuseum.FULL);
        Check.due("NOT comes before FULL", m.grid(1, 2, 2), CellMuseum.NOT);
        Check.due("BAD comes before FULL", m.grid(0, 2, 1), CellMuseum.BAD);
        m.fill(7, 1, 100);
        m.go(7, 3);
        m.remove(2);
        Check.due("a grid in the place of one that went", m.grid(0, 4, 4), 7);
        Check.due("it is all 0", m.amount(7, 0), 16);
        Check.due("its generation is 0", m.go(7, 1), 1);
    }

    private static void setAndCell() {
        CellMuseum m = turning(3);
        m.grid(0, 4, 6);
        Check.due("set", m.set(0, 3, 5, 2), 0);
        Check.due("cell", m.cell(0, 3, 5), 2);
        Check.due("set again", m.set(0, 3, 5, 1), 2);
        Check.due("cell at first", m.cell(0, 0, 0), 0);
        int[][] none = {{-1, 0, 0}, {1, 0, 0}, {0, -1, 0}, {0, 4, 0}, {0, 0, -1}, {0, 0, 6}, {0, 5, 3}};
        for (int[] n : none) {
            Check.due("set of none such", m.set(n[0], n[1], n[2], 1), CellMuseum.BAD);
            Check.due("none such", m.cell(n[0], n[1], n[2]), CellMuseum.BAD);
        }
        Check.due("set to 3", m.set(0, 0, 0, 3), CellMuseum.BAD);
        Check.due("set to -1", m.set(0, 0, 0, -1), CellMuseum.BAD);
        Check.due("cells that are 0", m.amount(0, 0), 23);
    }

    private static void filling() {
        for (int states = 2; states <= 4; states++) {
            CellMuseum m = turning(states);
            m.grid(0, 6, 4);
            int[] seeds = {0, 1, 12345, -1, Integer.MIN_VALUE, 987654321};
            for (int seed : seeds) {
                filledAsTold(m, states, seed, 60);
            }
            Check.due("share 0", m.fill(0, 5, 0), 0);
            Check.due("share 100", m.fill(0, 5, 100), 24);
            Check.due("share 101", m.fill(0, 5, 101), CellMuseum.BAD);
            Check.due("share -1", m.fill(0, 5, -1), CellMuseum.BAD);
            Check.due("fill(1, ..)", m.fill(1, 5, 5), CellMuseum.BAD);
            Check.due("fill(-1, ..)", m.fill(-1, 5, 5), CellMuseum.BAD);
            Check.due("BAD has changed nothing", m.amount(0, 0), 0);
            m.go(0, 5);
            m.fill(0, 7, 50);
            Check.due("the generation stays", m.go(0, 1), 6);
        }
    }

    private static void filledAsTold(CellMuseum m, int states, int seed, int share) {
        int answer = m.fill(0, seed, share);
        long t = seed & 0xffffffffL;
        int others = 0;
        for (int k = 0; k < 24; k++) {
            t = (t * 1664525L + 1013904223L) & 0xffffffffL;
            int u = (int) (t >> 16);
            int due = u % 100 >= share ? 0 : 1 + u / 100 % (states - 1);
            others += due == 0 ? 0 : 1;
            Check.due("cell " + k + " of seed " + seed, m.cell(0, k / 4, k % 4), due);
        }
        Check.due("fill of seed " + seed, answer, others);
    }

    private static void goingForward() {
        CellMuseum m = turning(4);
        m.grid(0, 4, 4);
        m.set(0, 0, 0, 3);
        Check.due("a step", m.go(0, 1), 1);
        Check.due("a to b", m.cell(0, 0, 1), 3);
        // Now blocks begin at odd rows and columns: (0, 1) is the lower left of the one that begins at (3, 1).
        Check.due("a step", m.go(0, 1), 2);
        Check.due("c to a, across the rim", m.cell(0, 3, 1), 3);
        Check.due("only one", m.amount(0, 3), 1);
        CellMuseum small = turning(2);
        small.grid(0, 2, 2);
        small.set(0, 0, 0, 1);
        Check.due("two steps", small.go(0, 2), 2);
        // (0, 1) is the lower left of the wrapped block whose upper left is (1, 1).
        Check.due("a block that wraps both ways", small.cell(0, 1, 1), 1);
        Check.due("a thousand", small.go(0, 1000), 1002);
    }

    private static void goingBack() {
        for (int states = 2; states <= 4; states++) {
            int[] image = Check.quarterTurn(states);
            int last = image[image.length - 1];
            image[image.length - 1] = image[1];
            image[1] = last;
            CellMuseum m = Check.with(Check.blockText(states, image));
            m.grid(0, 6, 8);
            m.fill(0, 99, 40);
            int[] before = cells(m);
            Check.due("forward", m.go(0, 77), 77);
            int[] after = cells(m);
            Check.due("something has moved", !java.util.Arrays.equals(before, after));
            Check.due("back by one", m.go(0, -1), 76);
            Check.due("forward by one", m.go(0, 1), 77);
            Check.due("as before", java.util.Arrays.equals(after, cells(m)));
            Check.due("back", m.go(0, -77), 0);
            Check.due("as at first", java.util.Arrays.equals(before, cells(m)));
            Check.due("back at 0", m.go(0, -1), CellMuseum.NOT);
        }
    }

    private static int[] cells(CellMuseum m) {
        int[] cells = new int[48];
        for (int k = 0; k < 48; k++) {
            cells[k] = m.cell(0, k / 8, k % 8);
        }
        return cells;
    }

    private static void goRefusals() {
        CellMuseum m = turning(2);
        int[] image = Check.identity(2);
        image[9] = 4;
        Check.rule(m, Check.blockText(2, image));
        m.grid(0, 2, 2);
        m.grid(1, 2, 2);
        Check.due("go(0, 0)", m.go(0, 0), CellMuseum.BAD);
        Check.due("go(0, 1001)", m.go(0, 1001), CellMuseum.BAD);
        Check.due("go(0, -1001)", m.go(0, -1001), CellMuseum.BAD);
        Check.due("go(0, min)", m.go(0, Integer.MIN_VALUE), CellMuseum.BAD);
        Check.due("go(2, 1)", m.go(2, 1), CellMuseum.BAD);
        Check.due("go(-1, 1)", m.go(-1, 1), CellMuseum.BAD);
        Check.due("go(0, 1000)", m.go(0, 1000), 1000);
        Check.due("go(0, -999)", m.go(0, -999), 1);
        Check.due("go(0, -2)", m.go(0, -2), CellMuseum.NOT);
        Check.due("go(0, -1)", m.go(0, -1), 0);
        Check.due("go(1, 5)", m.go(1, 5), 5);
        Check.due("back by a rule that is not reversible", m.go(1, -1), CellMuseum.NOT);
        Check.due("its generation stays", m.go(1, 1), 6);
    }

    private static void amounts() {
        CellMuseum m = turning(4);
        m.grid(0, 4, 4);
        m.fill(0, 31, 70);
        int sum = 0;
        for (int v = 0; v < 4; v++) {
            int amount = 0;
            for (int k = 0; k < 16; k++) {
                amount += m.cell(0, k / 4, k % 4) == v ? 1 : 0;
            }
            Check.due("amount(0, " + v + ")", m.amount(0, v), amount);
            sum += amount;
        }
        Check.due("all cells", sum, 16);
        Check.due("amount(0, 4)", m.amount(0, 4), CellMuseum.BAD);
        Check.due("amount(0, -1)", m.amount(0, -1), CellMuseum.BAD);
        Check.due("amount(1, 0)", m.amount(1, 0), CellMuseum.BAD);
    }

    private static void reversibility() {
        int[] image = Check.identity(3);
        image[70] = 12;
        image[80] = 12;
        image[60] = 40;
        image[50] = 40;
        CellMuseum m = turning(3);
        Check.rule(m, Check.blockText(3, image));
        Check.rule(m, "B3/S23/M");
        Check.due("reversible(0)", m.reversible(0), 1);
        Check.due("reversible(1)", m.reversible(1), 0);
        Check.due("reversible(2)", m.reversible(2), CellMuseum.NOT);
        Check.due("reversible(3)", m.reversible(3), CellMuseum.BAD);
        Check.due("reversible(-1)", m.reversible(-1), CellMuseum.BAD);
        Check.due("clash(1, 0)", m.clash(1, 0), 12);
        Check.due("clash(1, 1)", m.clash(1, 1), 70);
        Check.due("clash(0, 0)", m.clash(0, 0), CellMuseum.NOT);
        Check.due("clash(2, 1)", m.clash(2, 1), CellMuseum.NOT);
        Check.due("clash(3, 0)", m.clash(3, 0), CellMuseum.BAD);
        Check.due("clash(1, 2)", m.clash(1, 2), CellMuseum.BAD);
        Check.due("clash(1, -1)", m.clash(1, -1), CellMuseum.BAD);
        Check.due("BAD comes before NOT", m.clash(2, 2), CellMuseum.BAD);
        int[] late = Check.identity(2);
        late[15] = 14;
        Check.rule(m, Check.blockText(2, late));
        Check.due("the last two clash", m.clash(3, 0), 14);
        Check.due("the last two clash", m.clash(3, 1), 15);
    }

    private static void basis(String text, int[][] rows) {
        CellMuseum m = Check.with(text);
        Check.due("weights(0)", m.weights(0), rows.length);
        for (int k = 0; k < rows.length; k++) {
            for (int v = 0; v < rows[k].length; v++) {
                Check.due("weight(0, " + k + ", " + v + ")", m.weight(0, k, v), rows[k][v]);
            }
        }
    }

    private static int block(int states, int a, int b, int c, int d) {
        return ((a * states + b) * states + c) * states + d;
    }

    private static void conservedWeights() {
        basis(Check.blockText(4, Check.quarterTurn(4)),
                new int[][] {{1, 0, 0, 0}, {0, 1, 0, 0}, {0, 0, 1, 0}, {0, 0, 0, 1}});
        int[] two = Check.identity(2);
        two[1] = 0;
        basis(Check.blockText(2, two), new int[][] {{1, 1}});
        // Two cells of 1 become one of 0 and one of 2: 2 w1 = w0 + w2.
        int[] three = Check.identity(3);
        three[block(3, 0, 1, 1, 0)] = block(3, 0, 0, 2, 0);
        basis(Check.blockText(3, three), new int[][] {{1, 0, -1}, {0, 1, 2}});
        // 2 w0 + w1 = 3 w2: state 1 is leading, too.
        int[] ratio = Check.identity(3);
        ratio[block(3, 0, 0, 1, 0)] = block(3, 2, 2, 2, 0);
        basis(Check.blockText(3, ratio), new int[][] {{3, 0, 2}, {0, 3, 1}});
        // w2 = w0, so that only 1 and 0 are free, and w3 = 2 w1 - w0.
        int[] four = Check.identity(4);
        four[block(4, 0, 0, 0, 2)] = 0;
        four[block(4, 0, 1, 1, 0)] = block(4, 0, 0, 3, 0);
        basis(Check.blockText(4, four), new int[][] {{1, 0, 1, -1}, {0, 1, 0, 2}});
        // 3 w0 + w1 = 4 w3 and w1 + w2 = 2 w3.
        int[] odd = Check.identity(4);
        odd[block(4, 0, 0, 0, 1)] = block(4, 3, 3, 3, 3);
        odd[block(4, 1, 2, 0, 0)] = block(4, 3, 3, 0, 0);
        basis(Check.blockText(4, odd), new int[][] {{4, 0, 6, 3}, {0, 4, -2, 1}});
    }

    private static void noWeights() {
        CellMuseum m = turning(3);
        Check.rule(m, "B3/S23/M");
        Check.due("weights(1)", m.weights(1), CellMuseum.NOT);
        Check.due("weights(2)", m.weights(2), CellMuseum.BAD);
        Check.due("weights(-1)", m.weights(-1), CellMuseum.BAD);
        int[][] none = {{1, 0, 0}, {2, 0, 0}, {-1, 0, 0}, {0, -1, 0}, {0, 3, 0}, {0, 0, -1}, {0, 0, 3}, {0, 2, 5}};
        for (int[] n : none) {
            Check.due("weight of none such", m.weight(n[0], n[1], n[2]), 0);
        }
        Check.due("weight(0, 2, 2)", m.weight(0, 2, 2), 1);
    }

    private static void counts() {
        CellMuseum m = turning(2);
        Check.rule(m, "B3/S23/M");
        m.field(1);
        m.field(1);
        m.field(1);
        m.grid(0, 2, 2);
        m.still(1, 3, 3);
        m.oscillators(1, 3, 3, 2);
        m.feed(0, 0, 0, 0, 0);
        m.end(7);
        int[] due = {2, 3, 1, 2, 2, 7};
        for (int what = 0; what < due.length; what++) {
            Check.due("count(" + what + ")", m.count(what), due[what]);
        }
        Check.due("count(6)", m.count(6), CellMuseum.BAD);
        Check.due("count(-1)", m.count(-1), CellMuseum.BAD);
    }

    private static void removing() {
        CellMuseum m = turning(2);
        Check.rule(m, "B3/S23/M");
        Check.due("no field", m.remove(1), CellMuseum.NOT);
        Check.due("no grid", m.remove(2), CellMuseum.NOT);
        m.field(1);
        m.field(1);
        m.grid(0, 2, 2);
        m.put(0, 1, 1, 1);
        Check.due("remove(0)", m.remove(0), CellMuseum.BAD);
        Check.due("remove(3)", m.remove(3), CellMuseum.BAD);
        Check.due("remove(1)", m.remove(1), 1);
        Check.due("it is gone", m.at(1, 0, 0), CellMuseum.BAD);
        Check.due("the other stays", m.at(0, 1, 1), 1);
        Check.due("remove(2)", m.remove(2), 0);
        Check.due("it is gone", m.cell(0, 0, 0), CellMuseum.BAD);
        Check.due("remove(2) again", m.remove(2), CellMuseum.NOT);
        Check.due("remove(1)", m.remove(1), 0);
        Check.due("remove(1) again", m.remove(1), CellMuseum.NOT);
    }
}
