/** Promises 18 to 22: still, oscillators, ancestors, garden, found. */
public final class SearchTest {
    private static final String LIFE = "B3/S23/M";

    public static void main(String[] args) {
        still();
        oscillators();
        ancestors();
        gardens();
        refusals();
        full();
        Check.end("SearchTest");
    }

    private static void found(CellMuseum m, int... patterns) {
        for (int i = 0; i < patterns.length; i++) {
            Check.due("found(" + i + ")", m.found(i), patterns[i]);
        }
        Check.due("count(4)", m.count(4), patterns.length);
        Check.due("found behind the last", m.found(patterns.length), CellMuseum.BAD);
        Check.due("found(-1)", m.found(-1), CellMuseum.BAD);
    }

    private static void still() {
        CellMuseum m = Check.with(LIFE);
        Check.rule(m, "B/S012345678/M");
        Check.rule(m, "B1/S012345678/M");
        Check.rule(m, "B2/S1/X");
        Check.due("2 by 2", m.still(0, 2, 2), 2);
        found(m, 0, 15);
        Check.due("2 by 3", m.still(0, 2, 3), 3);
        found(m, 0, 27, 54);
        Check.due("3 by 2", m.still(0, 3, 2), 3);
        found(m, 0, 15, 60);
        Check.due("1 by 16", m.still(0, 1, 16), 1);
        found(m, 0);
        Check.due("all are still", m.still(1, 4, 4), 65536);
        Check.due("found(65535)", m.found(65535), 65535);
        Check.due("found(12345)", m.found(12345), 12345);
        Check.due("found(65536)", m.found(65536), CellMuseum.BAD);
        Check.due("cells round the box are dead, too", m.still(2, 1, 1), 1);
        found(m, 0);
        Check.due("a rule of six: two on the diagonal to the lower right", m.still(3, 2, 2), 1);
        found(m, 0);
        Check.due("the searches", m.count(3), 7);
    }

    private static void oscillators() {
        CellMuseum m = Check.with(LIFE);
        Check.rule(m, "B1/S/V");
        Check.rule(m, "B1/S/M");
        Check.due("blinkers", m.oscillators(0, 3, 3, 2), 2);
        found(m, 56, 146);
        Check.due("no period 2 in a line", m.oscillators(0, 1, 12, 2), 0);
        found(m);
        Check.due("3 by 4", m.oscillators(0, 3, 4, 2), 4);
        Check.due("4 by 3", m.oscillators(0, 4, 3, 2), 4);
        Check.due("no others", m.oscillators(0, 3, 4, 6), 0);
        Check.due("cells leave the box", m.oscillators(1, 1, 2, 2), 0);
    }

    private static void ancestors() {
        CellMuseum m = Check.with(LIFE);
        Check.rule(m, "B/S012345678/M");
        Check.rule(m, "B/S/V");
        Check.due("itself alone", m.ancestors(1, 1, 1, 1), 1);
        found(m, 16);
        Check.due("1 by 3", m.ancestors(1, 1, 3, 5), 1);
        found(m, 1 << 6 | 1 << 8);
        Check.due("nothing lives on: all lead to 0", m.ancestors(2, 2, 2, 0), 65536);
        Check.due("nothing lives on", m.ancestors(2, 2, 2, 1), 0);
        Check.due("a block", m.ancestors(0, 2, 2, 15) > 4);
        boolean blockIsThere = false;
        for (int i = 0; i < m.count(4); i++) {
            blockIsThere |= m.found(i) == (1 << 5 | 1 << 6 | 1 << 9 | 1 << 10);
            Check.due("they rise", i == 0 || m.found(i) > m.found(i - 1));
        }
        Check.due("a block is its own ancestor", blockIsThere);
    }

    private static void gardens() {
        CellMuseum m = Check.with(LIFE);
        Check.rule(m, "B/S/M");
        Check.rule(m, "B/S0/V");
        Check.due("none", m.garden(0, 2, 2), 0);
        found(m);
        Check.due("one cell", m.garden(1, 2, 2), 1);
        found(m, 1);
        Check.due("one cell of 1 by 3", m.garden(1, 1, 3), 1);
        found(m, 1);
        Check.due("only lonely ones live on: two side by side", m.garden(2, 1, 2), 1);
        found(m, 3);
        Check.due("of several the least", m.garden(2, 2, 2), 1);
        found(m, 3);
        Check.due("the searches", m.count(3), 5);
    }

    private static void refusals() {
        CellMuseum m = Check.with(LIFE);
        Check.rule(m, "B0/S/M");
        Check.rule(m, Check.blockText(2, Check.identity(2)));
        m.still(0, 2, 2);
        int[][] boxes = {{0, 4}, {4, 0}, {-1, -1}, {17, 1}, {1, 17}, {4, 5}, {3, 6}, {65536, 65536},
            {Integer.MIN_VALUE, 2}, {Integer.MAX_VALUE, Integer.MAX_VALUE}};
        for (int[] box : boxes) {
            Check.due("still", m.still(0, box[0], box[1]), CellMuseum.BAD);
            Check.due("oscillators", m.oscillators(0, box[0], box[1], 2), CellMuseum.BAD);
            Check.due("ancestors", m.ancestors(0, box[0], box[1], 0), CellMuseum.BAD);
            Check.due("garden", m.garden(0, box[0], box[1]), CellMuseum.BAD);
        }
        Check.due("oscillators of 13", m.oscillators(0, 1, 13, 2), CellMuseum.BAD);
        Check.due("oscillators of 16", m.oscillators(0, 4, 4, 2), CellMuseum.BAD);
        Check.due("oscillators of period 1", m.oscillators(0, 3, 3, 1), CellMuseum.BAD);
        Check.due("oscillators of period 7", m.oscillators(0, 3, 3, 7), CellMuseum.BAD);
        Check.due("ancestors of 1 by 4", m.ancestors(0, 1, 4, 0), CellMuseum.BAD);
        Check.due("ancestors of 2 by 3", m.ancestors(0, 2, 3, 0), CellMuseum.BAD);
        Check.due("ancestors of -1", m.ancestors(0, 2, 2, -1), CellMuseum.BAD);
        Check.due("ancestors of 16", m.ancestors(0, 2, 2, 16), CellMuseum.BAD);
        Check.due("ancestors of 8 of three cells", m.ancestors(0, 1, 3, 8), CellMuseum.BAD);
        Check.due("garden of 3 by 2", m.garden(0, 3, 2), CellMuseum.BAD);
        for (int r = 1; r <= 3; r++) {
            int answer = r == 3 ? CellMuseum.BAD : CellMuseum.NOT;
            Check.due("still of rule " + r, m.still(r, 2, 2), answer);
            Check.due("oscillators of rule " + r, m.oscillators(r, 2, 2, 2), answer);
            Check.due("ancestors of rule " + r, m.ancestors(r, 2, 2, 0), answer);
            Check.due("garden of rule " + r, m.garden(r, 2, 2), answer);
            Check.due("BAD comes first", m.still(r, 5, 5), CellMuseum.BAD);
            Check.due("BAD comes first", m.ancestors(r, 2, 2, 16), CellMuseum.BAD);
        }
        Check.due("no more searches", m.count(3), 1);
        found(m, 0, 15);
    }

    private static void full() {
        CellMuseum m = Check.with(LIFE);
        Check.rule(m, "B0/S/M");
        for (int k = 0; k < 30; k++) {
            Check.due("search " + k, k % 2 == 0 ? m.still(0, 2, 2) : m.oscillators(0, 3, 3, 2), 2);
        }
        Check.due("still", m.still(0, 2, 2), CellMuseum.FULL);
        Check.due("oscillators", m.oscillators(0, 2, 2, 2), CellMuseum.FULL);
        Check.due("ancestors", m.ancestors(0, 2, 2, 0), CellMuseum.FULL);
        Check.due("garden", m.garden(0, 2, 2), CellMuseum.FULL);
        Check.due("NOT comes before FULL", m.still(1, 2, 2), CellMuseum.NOT);
        Check.due("BAD comes before FULL", m.still(0, 2, 0), CellMuseum.BAD);
        Check.due("the searches", m.count(3), 30);
        found(m, 56, 146);
    }
}
