/** The boundary cases of promises 18 to 22, sentence by sentence. */
public final class SearchEdgesTest {
    private static final int BAD = CellMuseum.BAD;
    private static final int NOT = CellMuseum.NOT;
    private static final int FULL = CellMuseum.FULL;
    private static final String LIFE = "B3/S23/M";
    private static final String ALL_STAY = "B/S012345678/M";
    private static final String NONE_STAYS = "B/S/V";
    private static final int[] FAR = {Integer.MIN_VALUE, Integer.MIN_VALUE + 1, -65536, -1, 0, 65536, 65537,
        Integer.MAX_VALUE};
    private static final int[][] BOXES = {{1, 1}, {1, 2}, {2, 1}, {1, 3}, {3, 1}, {2, 2}};

    public static void main(String[] args) {
        boxesOfStill();
        boxesOfOscillators();
        boxesOfAncestors();
        boxesOfGardens();
        farBoxes();
        stillCellsOutside();
        periods();
        noFewerSteps();
        cellsOutsideInEachStep();
        patternsOfAncestors();
        cellsOutsideTheSmallerBox();
        gardensFound();
        gardensThatAreNone();
        rulesOfSearches();
        thirtySearches();
        whichIsNamedFirst();
        noneBeforeAny();
        theLatestThatWasDone();
        foundInOrder();
        Check.end("SearchEdgesTest");
    }

    private static void found(CellMuseum m, int... patterns) {
        Check.due("count(4)", m.count(4), patterns.length);
        for (int i = 0; i < patterns.length; i++) {
            Check.due("found(" + i + ")", m.found(i), patterns[i]);
        }
        Check.due("found(-1)", m.found(-1), BAD);
        Check.due("found(" + patterns.length + ")", m.found(patterns.length), BAD);
        Check.due("found(max)", m.found(Integer.MAX_VALUE), BAD);
        Check.due("found(min)", m.found(Integer.MIN_VALUE), BAD);
    }

    // ---- boxes

    private static void boxesOfStill() {
        Check.sentence("BAD: there is no RULE r, or R, C are not 1 .. 16 with R C 16 at most.");
        for (int rows = -1; rows <= 18; rows++) {
            CellMuseum m = Check.with(ALL_STAY);
            for (int columns = -1; columns <= 18; columns++) {
                boolean isBox = rows >= 1 && columns >= 1 && rows <= 16 && columns <= 16 && rows * columns <= 16;
                int due = isBox ? 1 << rows * columns : BAD;
                Check.due("still(0, " + rows + ", " + columns + ")", m.still(0, rows, columns), due);
                if (isBox) {
                    Check.due("the last that is found", m.found(due - 1), due - 1);
                    Check.due("behind it", m.found(due), BAD);
                }
            }
        }
    }

    private static void boxesOfOscillators() {
        Check.sentence("BAD: likewise, R C 12 at most; p is not 2 .. 6.");
        for (int rows = -1; rows <= 17; rows++) {
            CellMuseum m = Check.with(LIFE);
            for (int columns = -1; columns <= 17; columns++) {
                boolean isBox = rows >= 1 && columns >= 1 && rows * columns <= 12;
                // Only blinkers have period 2 there, and they need three by three.
                int due = rows < 3 || columns < 3 ? 0 : rows * columns == 9 ? 2 : 4;
                Check.due("oscillators(0, " + rows + ", " + columns + ", 2)", m.oscillators(0, rows, columns, 2),
                        isBox ? due : BAD);
            }
        }
        CellMuseum m = Check.with(LIFE);
        for (int p = -2; p <= 9; p++) {
            Check.due("oscillators(0, 3, 3, " + p + ")", m.oscillators(0, 3, 3, p),
                    p < 2 || p > 6 ? BAD : p == 2 ? 2 : 0);
        }
        for (int p : FAR) {
            Check.due("oscillators(0, 3, 3, " + p + ")", m.oscillators(0, 3, 3, p), BAD);
        }
        Check.due("count(3)", m.count(3), 5);
    }

    private static void boxesOfAncestors() {
        Check.sentence("BAD: likewise, (R + 2) (C + 2) 16 at most; there is no such pattern.");
        for (int rows = -3; rows <= 17; rows++) {
            CellMuseum m = Check.with(NONE_STAYS);
            for (int columns = -3; columns <= 17; columns++) {
                int cells = (rows + 2) * (columns + 2);
                boolean isBox = rows >= 1 && columns >= 1 && cells <= 16;
                Check.due("ancestors(0, " + rows + ", " + columns + ", 0)", m.ancestors(0, rows, columns, 0),
                        isBox ? 1 << cells : BAD);
            }
        }
    }

    private static void boxesOfGardens() {
        Check.sentence("BAD, NOT, FULL: as ancestors().");
        for (int rows = -3; rows <= 17; rows++) {
            CellMuseum m = Check.with(NONE_STAYS);
            for (int columns = -3; columns <= 17; columns++) {
                boolean isBox = rows >= 1 && columns >= 1 && (rows + 2) * (columns + 2) <= 16;
                Check.due("garden(0, " + rows + ", " + columns + ")", m.garden(0, rows, columns), isBox ? 1 : BAD);
            }
        }
    }

    private static void farBoxes() {
        Check.sentence("BAD (-1): a number is not as said, or there is nothing such");
        CellMuseum m = Check.with(LIFE);
        for (int far : FAR) {
            for (int other : new int[] {1, 2, 65536, far}) {
                Check.due("still", m.still(0, far, other), BAD);
                Check.due("still", m.still(0, other, far), BAD);
                Check.due("oscillators", m.oscillators(0, far, other, 2), BAD);
                Check.due("oscillators", m.oscillators(0, other, far, 2), BAD);
                Check.due("ancestors", m.ancestors(0, far, other, 0), BAD);
                Check.due("ancestors", m.ancestors(0, other, far, 0), BAD);
                Check.due("garden", m.garden(0, far, other), BAD);
                Check.due("garden", m.garden(0, other, far), BAD);
            }
        }
        Check.due("count(3)", m.count(3), 0);
    }

    // ---- still and oscillators

    private static void stillCellsOutside() {
        Check.sentence("STILL: R C is 16 at most: the patterns that one step leaves as they are.");
        // One cell stays, but it has a cell born beside it, which is outside a box of one cell.
        CellMuseum m = Check.with("B1/S012345678/M");
        Check.due("1 by 1", m.still(0, 1, 1), 1);
        found(m, 0);
        Check.due("4 by 4", m.still(0, 4, 4), 1);
        CellMuseum corner = Check.with("B1/S0123456/X");
        Check.due("1 by 1", corner.still(0, 1, 1), 1);
        // Three in a row stay, too, but two cells are born above and below them.
        CellMuseum line = Check.with("B3/S12/M");
        Check.due("1 by 3", line.still(0, 1, 3), 3);
        found(line, 0, 3, 6);
        CellMuseum alone = Check.with("B/S0/V");
        Check.due("no two side by side", alone.still(0, 1, 16), 2584);
        Check.due("the last of them", alone.found(2583), 0xaaaa);
        Check.due("no two one below the other", alone.still(0, 16, 1), 2584);
        Check.due("neither in 2 by 2", alone.still(0, 2, 2), 7);
        found(alone, 0, 1, 2, 4, 6, 8, 9);
        Check.sentence("bit i C + j tells whether the cell in row i, column j is alive");
        CellMuseum diagonal = Check.with("B/S0/X");
        Check.due("the diagonal from upper left counts", diagonal.still(0, 2, 2), 6);
        found(diagonal, 0, 1, 2, 4, 6, 8);
    }

    private static void oscillate(String rule, int rows, int columns, int p, int... patterns) {
        CellMuseum m = Check.with(rule);
        Check.due(rule + ", period " + p, m.oscillators(0, rows, columns, p), patterns.length);
        found(m, patterns);
    }

    private static void periods() {
        Check.sentence("OSCILLATORS of a period p (2 .. 6; R C 12 at most): those that p steps lead to themselves");
        oscillate("B2/S456/X", 2, 2, 2, 6, 9);
        oscillate("B45/S01236/X", 3, 4, 3, 2805, 3735, 3831);
        oscillate("B2/S456/X", 3, 3, 4, 84, 170, 186, 325);
        oscillate("B24/S134/V", 3, 4, 5, 360, 660, 756, 1170, 1266, 1386, 2046, 2145, 2661, 3831);
        oscillate("B2/S1/V", 3, 4, 6, 756, 924, 1266, 1950, 3219, 3735);
        oscillate("B2/S1/V", 4, 3, 6, 1266, 1434, 1638, 1902, 3339, 3435);
        oscillate("B/S012345678/M", 1, 12, 2);
        oscillate("B/S012345678/M", 12, 1, 6);
    }

    private static void noFewerSteps() {
        Check.sentence("and no fewer");
        // What is still, and what has period 2, is as it was after 4 and 6 steps, too.
        oscillate(LIFE, 3, 3, 2, 56, 146);
        oscillate(LIFE, 3, 3, 4);
        oscillate(LIFE, 3, 3, 6);
        oscillate("B2/S456/X", 2, 2, 4);
        oscillate("B45/S01236/X", 3, 4, 6);
        oscillate(LIFE, 2, 2, 2);
    }

    private static void cellsOutsideInEachStep() {
        Check.sentence("and that have all cells outside the box dead in each of these steps");
        oscillate(LIFE, 1, 3, 2);
        oscillate(LIFE, 3, 1, 2);
        oscillate(LIFE, 2, 3, 2);
        oscillate(LIFE, 2, 6, 2);
        oscillate(LIFE, 3, 3, 2, 56, 146);
        // One cell becomes the four round it, and they the one, of which others are born, too.
        oscillate("B14/S/V", 1, 1, 2);
        oscillate("B14/S/V", 3, 3, 2);
        // 7 and 21 would change places, were it not for the cell that is born above 7.
        oscillate("B35/S17/M", 2, 3, 2, 14, 28, 35, 49);
        oscillate("B35/S17/M", 3, 2, 2, 22, 26, 37, 41);
    }

    // ---- ancestors and gardens

    private static void patternsOfAncestors() {
        Check.sentence("there is no such pattern");
        for (int[] box : BOXES) {
            CellMuseum m = Check.with(ALL_STAY);
            int patterns = 1 << box[0] * box[1];
            for (int pattern : new int[] {0, 1, patterns - 1}) {
                Check.due("ancestors of " + pattern, m.ancestors(0, box[0], box[1], pattern), 1);
                Check.due("itself in the greater box", m.found(0), inGreaterBox(box[0], box[1], pattern));
            }
            int[] none = {patterns, patterns + 1, -1, -2, 65536, Integer.MAX_VALUE, Integer.MIN_VALUE};
            for (int pattern : none) {
                Check.due("ancestors of " + pattern, m.ancestors(0, box[0], box[1], pattern), BAD);
            }
            Check.due("count(3)", m.count(3), 3);
        }
    }

    private static int inGreaterBox(int rows, int columns, int pattern) {
        int greater = 0;
        for (int i = 0; i < rows; i++) {
            for (int j = 0; j < columns; j++) {
                greater |= (pattern >> i * columns + j & 1) << (i + 1) * (columns + 2) + j + 1;
            }
        }
        return greater;
    }

    private static void cellsOutsideTheSmallerBox() {
        Check.sentence("all cells outside the smaller box being dead then");
        CellMuseum m = Check.with("B1/S/V");
        // Above a highest cell one is born always.
        Check.due("of nothing", m.ancestors(0, 1, 1, 0), 1);
        found(m, 0);
        CellMuseum stay = Check.with(ALL_STAY);
        Check.due("nothing may be alive round the box", stay.ancestors(0, 1, 1, 0), 1);
        found(stay, 0);
        CellMuseum die = Check.with("B/S0/M");
        Check.due("one alone", die.ancestors(0, 1, 1, 1), 1);
        found(die, 16);
        CellMuseum beyond = Check.with("B3/S/M");
        Check.due("three in a row at the rim bear one beyond it", beyond.ancestors(0, 1, 1, 0) > 0);
        boolean rowIsThere = false;
        for (int i = 0; i < beyond.count(4); i++) {
            rowIsThere |= beyond.found(i) == 7;
        }
        Check.due("it is no ancestor of nothing", !rowIsThere);
    }

    private static void grows(String rule, int rows, int columns, int pattern) {
        CellMuseum m = Check.with(rule);
        Check.due("garden of " + rule, m.garden(0, rows, columns), 1);
        found(m, pattern);
        Check.due("it has no ancestor", m.ancestors(0, rows, columns, pattern), 0);
        for (int other = 0; other < pattern && m.count(3) < 30; other++) {
            if (Integer.bitCount(other) <= Integer.bitCount(pattern)) {
                Check.due("one that comes before it has", m.ancestors(0, rows, columns, other) > 0);
            }
        }
    }

    private static void gardensFound() {
        Check.sentence("of the patterns without any ancestors the one with the fewest alive cells, of several"
                + " the least");
        grows("B/S/V", 1, 1, 1);
        grows("B/S/V", 2, 2, 1);
        grows("B5/S135/X", 2, 2, 2);
        grows("B2/S0/X", 2, 2, 3);
        grows("B2/S012/V", 2, 2, 6);
        grows("B/S013/V", 2, 2, 7);
        grows("B2/S023/X", 2, 2, 11);
        grows("B3/S1/V", 2, 2, 15);
        grows("B/S12/X", 1, 3, 2);
        grows("B2/S0/X", 3, 1, 3);
        grows("B2/S012/V", 1, 3, 5);
        grows("B3/S/V", 3, 1, 7);
    }

    private static void gardensThatAreNone() {
        Check.sentence("GARDEN: 1, it is found; 0: there is none.");
        for (int[] box : BOXES) {
            CellMuseum m = Check.with(LIFE);
            Check.rule(m, ALL_STAY);
            Check.due("garden of all that stays", m.garden(1, box[0], box[1]), 0);
            found(m);
            Check.due("garden of life", m.garden(0, box[0], box[1]), 0);
            found(m);
            Check.due("count(3)", m.count(3), 2);
        }
    }

    // ---- refusals, and what is found

    private static void each(CellMuseum m, int r, int due) {
        Check.due("still of rule " + r, m.still(r, 1, 2), due);
        Check.due("oscillators of rule " + r, m.oscillators(r, 2, 1, 3), due);
        Check.due("ancestors of rule " + r, m.ancestors(r, 1, 2, 1), due);
        Check.due("garden of rule " + r, m.garden(r, 2, 1), due);
    }

    private static void rulesOfSearches() {
        Check.sentence("BAD: there is no RULE r");
        each(new CellMuseum(), 0, BAD);
        CellMuseum m = Check.with(LIFE);
        each(m, 1, BAD);
        each(m, -1, BAD);
        each(m, 16, BAD);
        each(m, Integer.MAX_VALUE, BAD);
        each(m, Integer.MIN_VALUE, BAD);
        Check.sentence("NOT: it is no COUNT RULE, or has 0 in BORN.");
        String[] others = {"B0/S/M", "B04/S4/V", "B0/S/X", Check.blockText(2, Check.identity(2)),
            Check.blockText(3, Check.identity(3)), Check.blockText(4, Check.identity(4))};
        for (String other : others) {
            int r = Check.rule(m, other);
            each(m, r, NOT);
            Check.due("BAD comes before NOT", m.still(r, 1, 17), BAD);
            Check.due("BAD comes before NOT", m.oscillators(r, 1, 2, 7), BAD);
            Check.due("BAD comes before NOT", m.ancestors(r, 1, 2, 4), BAD);
            Check.due("BAD comes before NOT", m.garden(r, 1, 4), BAD);
        }
        Check.due("count(3)", m.count(3), 0);
        CellMuseum stays = Check.with("B/S0/M");
        Check.due("0 in STAYS alone is fine", stays.still(0, 1, 1), 2);
    }

    private static void thirtySearches() {
        Check.sentence("FULL: 30 searches were done.");
        CellMuseum m = Check.with(LIFE);
        Check.rule(m, "B0/S/M");
        for (int k = 0; k < 30; k++) {
            Check.due("count(3)", m.count(3), k);
            // What is refused is no search.
            Check.due("BAD", m.still(0, 0, 1), BAD);
            Check.due("NOT", m.garden(1, 1, 1), NOT);
            switch (k % 4) {
                case 0 -> Check.due("still", m.still(0, 2, 2), 2);
                case 1 -> Check.due("oscillators", m.oscillators(0, 3, 3, 2), 2);
                case 2 -> Check.due("ancestors", m.ancestors(0, 1, 1, 0) > 0);
                default -> Check.due("garden", m.garden(0, 2, 2), 0);
            }
        }
        Check.due("count(3)", m.count(3), 30);
        found(m, 56, 146);
        each(m, 0, FULL);
        each(m, 0, FULL);
        Check.due("count(3)", m.count(3), 30);
        found(m, 56, 146);
        Check.due("there is room for other things", m.field(0), 0);
    }

    private static void whichIsNamedFirst() {
        Check.sentence("Answers, of several the one named first");
        CellMuseum m = Check.with(LIFE);
        Check.rule(m, "B0/S/M");
        for (int k = 0; k < 30; k++) {
            m.garden(0, 1, 1);
        }
        each(m, 0, FULL);
        each(m, 1, NOT);
        each(m, 2, BAD);
        Check.due("still", m.still(1, 17, 1), BAD);
        Check.due("oscillators", m.oscillators(1, 13, 1, 2), BAD);
        Check.due("oscillators", m.oscillators(1, 3, 3, 1), BAD);
        Check.due("ancestors", m.ancestors(1, 2, 2, 16), BAD);
        Check.due("garden", m.garden(1, 2, 3), BAD);
    }

    private static void noneBeforeAny() {
        Check.sentence("What is found are rising numbers, those of the latest search that was done; none before any.");
        CellMuseum m = Check.with(LIFE);
        found(m);
        m.still(0, 17, 1);
        m.oscillators(1, 3, 3, 2);
        found(m);
    }

    private static void theLatestThatWasDone() {
        Check.sentence("those of the latest search that was done");
        CellMuseum m = Check.with(LIFE);
        Check.rule(m, "B0/S/M");
        m.still(0, 2, 3);
        found(m, 0, 27, 54);
        m.still(0, 4, 5);
        m.oscillators(0, 3, 3, 7);
        m.ancestors(0, 2, 2, 16);
        m.garden(1, 2, 2);
        found(m, 0, 27, 54);
        Check.due("one that finds nothing", m.oscillators(0, 3, 3, 3), 0);
        found(m);
        m.still(0, 1, 1);
        found(m, 0);
        m.garden(0, 2, 2);
        found(m);
    }

    private static void foundInOrder() {
        Check.sentence("The i-th (from 0 on) of what was found. BAD: there is none such.");
        CellMuseum m = Check.with(ALL_STAY);
        m.still(0, 4, 4);
        for (int i : new int[] {0, 1, 63, 64, 65, 4095, 4096, 32767, 32768, 65534, 65535}) {
            Check.due("found(" + i + ")", m.found(i), i);
        }
        for (int i : new int[] {-1, 65536, 65537, Integer.MAX_VALUE, Integer.MIN_VALUE}) {
            Check.due("found(" + i + ")", m.found(i), BAD);
        }
        m.still(0, 1, 1);
        found(m, 0, 1);
    }
}
