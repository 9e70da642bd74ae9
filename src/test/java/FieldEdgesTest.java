/** The boundary cases of promises 6 to 8 and 10 to 17, sentence by sentence; RunTextEdgesTest has those of read(). */
public final class FieldEdgesTest {
    private static final int BAD = CellMuseum.BAD;
    private static final int NOT = CellMuseum.NOT;
    private static final int FULL = CellMuseum.FULL;
    private static final String LIFE = "B3/S23/M";
    private static final String[] CALM = {"B/S012345678/M", "B/S/V", "B3/S23/M", "B12345678/S012345678/M", "B2/S/X"};
    private static final int[] FAR = {Integer.MIN_VALUE, Integer.MIN_VALUE + 1, -1000, 1000, Integer.MAX_VALUE};

    public static void main(String[] args) {
        newFields();
        fieldsOfNoRule();
        fieldsOfOtherRules();
        eightFields();
        placesOfCells();
        noSuchCell();
        boxes();
        textOfAnEmptyField();
        textsOfFields();
        bytesOfTexts();
        numbersOfNeighbours();
        neighbourhoods();
        zeroSteps();
        stepsUpToTheRim();
        deadBeyondThePlaces();
        stepsOfAnEmptyField();
        howManySteps();
        jumps();
        aboutWhat();
        differentBlocks();
        emptyBlocks();
        blocksAskedBefore();
        periodsUpToMost();
        periodsOfNothing();
        periodsAcrossThePlaces();
        periodsOfWhatIsLeft();
        periodsNearTheRim();
        shifts();
        congruence();
        congruenceAtTheRims();
        congruenceOfNothing();
        emptying();
        Check.end("FieldEdgesTest");
    }

    private static CellMuseum field(String rule) {
        CellMuseum m = Check.with(rule);
        Check.due("field(0)", m.field(0), 0);
        return m;
    }

    private static CellMuseum fields(String rule, int many) {
        CellMuseum m = Check.with(rule);
        for (int f = 0; f < many; f++) {
            Check.due("field(0)", m.field(0), f);
        }
        return m;
    }

    private static void text(CellMuseum m, int f, String want) {
        Check.same("the text of field " + f, Check.fieldText(m, f), want);
    }

    private static void box(CellMuseum m, int f, int... leastAndGreatest) {
        for (int k = 0; k < 4; k++) {
            Check.due("about(" + f + ", " + (k + 1) + ")", m.about(f, k + 1), leastAndGreatest[k]);
        }
    }

    // ---- field, put, at

    private static void newFields() {
        Check.sentence("all dead at first, generation 0");
        CellMuseum m = field(LIFE);
        Check.due("about(0, 0)", m.about(0, 0), 0);
        Check.due("about(0, 5)", m.about(0, 5), 0);
        text(m, 0, "!");
        m.put(0, -128, -128, 1);
        m.put(0, 127, 127, 1);
        m.steps(0, 0);
        m.remove(1);
        Check.due("a field in the place of one that went", m.field(0), 0);
        Check.due("about(0, 0)", m.about(0, 0), 0);
        Check.due("at(0, -128, -128)", m.at(0, -128, -128), 0);
        Check.due("at(0, 127, 127)", m.at(0, 127, 127), 0);
        Check.due("steps(0, 1)", m.steps(0, 1), 1);
        m.remove(1);
        m.field(0);
        Check.due("about(0, 5)", m.about(0, 5), 0);
    }

    private static void fieldsOfNoRule() {
        Check.sentence("A new FIELD: its number. BAD: there is no RULE r.");
        CellMuseum none = new CellMuseum();
        Check.due("field(0) without rules", none.field(0), BAD);
        CellMuseum m = Check.with(LIFE);
        Check.due("field(1)", m.field(1), BAD);
        Check.due("field(-1)", m.field(-1), BAD);
        for (int r : FAR) {
            Check.due("field(" + r + ")", m.field(r), BAD);
        }
        Check.due("count(1)", m.count(1), 0);
    }

    private static void fieldsOfOtherRules() {
        Check.sentence("NOT: it is no COUNT RULE, or has 0 in BORN.");
        String[] others = {"B0/S/M", "B0/S/V", "B0/S/X", "B012345678/S012345678/M",
            Check.blockText(2, Check.identity(2)), Check.blockText(3, Check.identity(3)),
            Check.blockText(4, Check.identity(4))};
        for (String other : others) {
            CellMuseum m = Check.with(other);
            Check.due("field(0) of " + other, m.field(0), NOT);
            Check.due("count(1)", m.count(1), 0);
        }
        String[] goodOnes = {"B/S0/M", "B/S/M", "B1/S0/V", "B6/S06/X"};
        for (String good : goodOnes) {
            field(good);
        }
    }

    private static void eightFields() {
        Check.sentence("FIELDS (8)");
        CellMuseum m = fields(LIFE, 8);
        Check.rule(m, "B0/S/M");
        Check.due("field 8", m.field(0), FULL);
        Check.due("field 8 again", m.field(0), FULL);
        Check.due("count(1)", m.count(1), 8);
        Check.due("at(8, 0, 0)", m.at(8, 0, 0), BAD);
        Check.due("the last is there", m.put(7, 1, 1, 1), 0);
        Check.due("NOT comes before FULL", m.field(1), NOT);
        Check.due("BAD comes before FULL", m.field(2), BAD);
        Check.due("remove(1)", m.remove(1), 7);
        Check.due("there is room again", m.field(0), 7);
        Check.due("and then none", m.field(0), FULL);
    }

    private static void placesOfCells() {
        Check.sentence("A cell of a FIELD becomes v (0, 1): what it was.");
        int[] edges = {-128, -127, -65, -64, -1, 0, 63, 64, 126, 127};
        for (int x : edges) {
            CellMuseum m = fields(LIFE, 2);
            for (int y : edges) {
                Check.due("at(1, " + x + ", " + y + ")", m.at(1, x, y), 0);
                Check.due("put of 0 where 0 is", m.put(1, x, y, 0), 0);
                Check.due("put of 1 where 0 is", m.put(1, x, y, 1), 0);
                Check.due("about(1, 0)", m.about(1, 0), 1);
                box(m, 1, x, y, x, y);
                Check.due("put of 1 where 1 is", m.put(1, x, y, 1), 1);
                Check.due("at(1, " + x + ", " + y + ")", m.at(1, x, y), 1);
                Check.due("the other field's cell", m.at(0, x, y), 0);
                Check.due("put of 0 where 1 is", m.put(1, x, y, 0), 1);
                Check.due("at(1, " + x + ", " + y + ")", m.at(1, x, y), 0);
                Check.due("about(1, 0)", m.about(1, 0), 0);
            }
            Check.due("the generation stays", m.about(1, 5), 0);
        }
    }

    private static void noSuchCell() {
        Check.sentence("BAD: there is no such field, place, v.");
        CellMuseum m = field(LIFE);
        int[][] none = {{0, -129, 0}, {0, 128, 0}, {0, 0, -129}, {0, 0, 128}, {0, 128, 128}, {0, -129, -129},
            {1, 0, 0}, {-1, 0, 0}, {8, 0, 0}};
        for (int[] n : none) {
            Check.due("put", m.put(n[0], n[1], n[2], 1), BAD);
            Check.due("put", m.put(n[0], n[1], n[2], 0), BAD);
            Check.due("at", m.at(n[0], n[1], n[2]), BAD);
        }
        for (int far : FAR) {
            Check.due("put(" + far + ", 0, 0, 1)", m.put(far, 0, 0, 1), BAD);
            Check.due("put(0, " + far + ", 0, 1)", m.put(0, far, 0, 1), BAD);
            Check.due("put(0, 0, " + far + ", 1)", m.put(0, 0, far, 1), BAD);
            Check.due("put(0, 0, 0, " + far + ")", m.put(0, 0, 0, far), BAD);
            Check.due("at(" + far + ", 0, 0)", m.at(far, 0, 0), BAD);
            Check.due("at(0, " + far + ", 0)", m.at(0, far, 0), BAD);
            Check.due("at(0, 0, " + far + ")", m.at(0, 0, far), BAD);
        }
        Check.due("put of -1", m.put(0, 0, 0, -1), BAD);
        Check.due("put of 2", m.put(0, 0, 0, 2), BAD);
        Check.due("nothing has changed", m.about(0, 0), 0);
    }

    // ---- boxes and texts

    private static void boxes() {
        Check.sentence("The BOX of a field is the least box of places that has all alive cells; none if there"
                + " is none.");
        CellMuseum m = field(LIFE);
        box(m, 0, 0, 0, 0, 0);
        m.put(0, -128, 127, 1);
        box(m, 0, -128, 127, -128, 127);
        m.put(0, 127, -128, 1);
        box(m, 0, -128, -128, 127, 127);
        m.put(0, -128, 127, 0);
        box(m, 0, 127, -128, 127, -128);
        m.put(0, 127, -128, 0);
        box(m, 0, 0, 0, 0, 0);
        // The box is not the cells' hull alone: none of its corners is alive here.
        m.put(0, -1, 5, 1);
        m.put(0, 0, 4, 1);
        m.put(0, 1, 5, 1);
        m.put(0, 0, 6, 1);
        box(m, 0, -1, 4, 1, 6);
        m.put(0, 0, 6, 0);
        box(m, 0, -1, 4, 1, 5);
        m.put(0, 0, 4, 0);
        box(m, 0, -1, 5, 1, 5);
        Check.read(m, 0, -1, 5, "3b!");
        box(m, 0, 0, 0, 0, 0);
        Check.read(m, 0, -3, -4, "b$bo!");
        box(m, 0, -2, -3, -2, -3);
    }

    private static void textOfAnEmptyField() {
        Check.sentence("Of an empty one: !");
        CellMuseum m = field("B/S/M");
        Check.due("textByte(0, 0)", m.textByte(0, 0), '!');
        Check.due("textByte(0, 1)", m.textByte(0, 1), 0);
        m.put(0, 9, 9, 1);
        text(m, 0, "o!");
        m.steps(0, 1);
        Check.due("textByte(0, 0) of what has died", m.textByte(0, 0), '!');
        Check.due("textByte(0, 1) of what has died", m.textByte(0, 1), 0);
    }

    private static void textIs(String cells, int x, int y, String want) {
        CellMuseum m = field(LIFE);
        Check.read(m, 0, x, y, cells);
        text(m, 0, want);
    }

    private static void textsOfFields() {
        Check.sentence("of its BOX, row by row, each row up to its last alive cell, runs as long as may be");
        textIs("o!", 127, 127, "o!");
        textIs("o!", -128, -128, "o!");
        textIs("oo!", -1, 0, "2o!");
        textIs("256o!", -128, 127, "256o!");
        textIs("o254bo!", -128, 127, "o254bo!");
        textIs("9o!", 0, 0, "9o!");
        textIs("10o!", 0, 0, "10o!");
        textIs("11o!", 60, 0, "11o!");
        textIs("99o!", 0, 0, "99o!");
        textIs("100o!", 0, 0, "100o!");
        textIs("101o!", 20, 0, "101o!");
        textIs("198o!", -100, 0, "198o!");
        textIs("199o!", -100, 0, "199o!");
        textIs("200o!", -100, 0, "200o!");
        textIs("3b2o3b!", 0, 0, "2o!");
        textIs("2bo3b$o4b$bo!", 0, 0, "2bo$o$bo!");
        textIs("b4o$4o!", 0, 0, "b4o$4o!");
        textIs("obo$3b$3bo!", -2, -2, "obo2$3bo!");
        Check.sentence("between two rows that have alive cells one $ with a count of how far the second is below"
                + " the first; then !.");
        textIs("o$o!", 0, 126, "o$o!");
        textIs("o2$o!", 0, 125, "o2$o!");
        textIs("o10$o!", 0, 0, "o10$o!");
        textIs("o100$o!", 0, 0, "o100$o!");
        textIs("o255$o!", -128, -128, "o255$o!");
        textIs("255$255bo!", -128, -128, "o!");
        textIs("3$o3$2b5$!", 0, 0, "o!");
        textIs("o$b$o$o3$b3$o!", 0, 0, "o2$o$o6$o!");
    }

    private static void bytesOfTexts() {
        Check.sentence("Byte i of a FIELD's TEXT; 0: there is none such. BAD: there is no field f.");
        CellMuseum m = field(LIFE);
        Check.read(m, 0, 0, 0, "12o20$100bo!");
        String want = "12o20$100bo!";
        for (int i = 0; i < want.length(); i++) {
            Check.due("textByte(0, " + i + ")", m.textByte(0, i), want.charAt(i));
        }
        Check.due("behind the last byte", m.textByte(0, want.length()), 0);
        Check.due("before the first byte", m.textByte(0, -1), 0);
        for (int i : FAR) {
            Check.due("textByte(0, " + i + ")", m.textByte(0, i), 0);
            Check.due("textByte(" + i + ", 0)", m.textByte(i, 0), BAD);
        }
        Check.due("textByte(1, 0)", m.textByte(1, 0), BAD);
        Check.due("textByte(-1, 0)", m.textByte(-1, 0), BAD);
        Check.due("BAD comes before 0", m.textByte(1, -1), BAD);

        // As long a text as the calls of one object can make: every second cell alive, in 32 rows.
        CellMuseum longest = field(LIFE);
        for (int y = 96; y < 128; y += 4) {
            Check.read(longest, 0, -128, y, ("bo".repeat(128) + "$").repeat(4) + "!");
        }
        Check.due("about(0, 0)", longest.about(0, 0), 128 * 32);
        // The first column is dead, so each row has an o and 127 times bo, and a $ or the ! behind it.
        int length = 256 * 32;
        Check.due("the first byte", longest.textByte(0, 0), 'o');
        Check.due("the last byte of the first row", longest.textByte(0, 254), 'o');
        Check.due("the first $", longest.textByte(0, 255), '$');
        Check.due("the first byte of the second row", longest.textByte(0, 256), 'o');
        Check.due("the last o", longest.textByte(0, length - 2), 'o');
        Check.due("the !", longest.textByte(0, length - 1), '!');
        Check.due("behind it", longest.textByte(0, length), 0);
    }

    // ---- steps and jumps

    // The neighbourhood of n cells is the first n of these.
    private static final int[][] ROUND = {{0, -1}, {0, 1}, {-1, 0}, {1, 0}, {-1, -1}, {1, 1}, {1, -1}, {-1, 1}};

    private static void numbersOfNeighbours() {
        Check.sentence("a dead cell becomes alive if the number of its alive neighbours is in BORN, an alive"
                + " one stays so"
                + " if it is in STAYS; all others are dead then.");
        String letters = "MVX";
        int[] most = {8, 4, 6};
        for (int k = 0; k < 3; k++) {
            for (int number = 0; number <= most[k]; number++) {
                stepOfNumber(most[k], letters.charAt(k), number);
            }
        }
    }

    /** Of the middle of a square of three by three, with n of its neighbours alive, and all that are none. */
    private static void stepOfNumber(int most, char letter, int number) {
        CellMuseum m = Check.with("B" + (number == 0 ? "" : number) + "/S" + number + "/" + letter);
        m.field(0);
        for (int n = 0; n <= most; n++) {
            for (int v = 0; v <= 1; v++) {
                m.empty(0);
                m.put(0, -64, 63, v);
                for (int k = 0; k < 8; k++) {
                    m.put(0, -64 + ROUND[k][0], 63 + ROUND[k][1], k < n || k >= most ? 1 : 0);
                }
                m.steps(0, 1);
                int due = n == number && (v == 1 || number > 0) ? 1 : 0;
                Check.due("state " + v + " with " + n + " of " + letter + ", in question " + number, m.at(0, -64, 63),
                        due);
            }
        }
    }

    private static void neighbourhoods() {
        Check.sentence("8 (all cells at distance 1 in both, or one, of x and y), 4 (of these those with the"
                + " same x or the"
                + " same y), or 6 (those of 4, and (x - 1, y - 1) and (x + 1, y + 1))");
        String[] rules = {"B1/S/M", "B1/S/V", "B1/S/X"};
        String[] after = {"3o$obo$3o!", "bo$obo$bo!", "2o$obo$b2o!"};
        // Where one word of 64 cells ends and the next begins, and in the corners that leave room for one step.
        int[][] places = {{0, 0}, {-1, 5}, {63, 63}, {64, -64}, {-65, 9}, {-64, 9}, {-127, -127}, {126, -127},
            {-127, 126}, {126, 126}};
        for (int k = 0; k < rules.length; k++) {
            CellMuseum m = field(rules[k]);
            for (int[] p : places) {
                m.empty(0);
                m.put(0, p[0], p[1], 1);
                m.steps(0, 1);
                text(m, 0, after[k]);
                box(m, 0, p[0] - 1, p[1] - 1, p[0] + 1, p[1] + 1);
            }
        }
    }

    private static void zeroSteps() {
        Check.sentence("n STEPS are done (n 0 .. 64): the FIELD's generation then.");
        for (String rule : CALM) {
            CellMuseum m = field(rule);
            m.put(0, -128, 127, 1);
            m.put(0, 127, -128, 1);
            Check.due("steps(0, 0)", m.steps(0, 0), 0);
            Check.due("about(0, 0)", m.about(0, 0), 2);
            Check.due("steps(0, 1)", m.steps(0, 1), NOT);
        }
    }

    private static void stepsUpToTheRim() {
        Check.sentence("n STEPS of a field are DONE just if no cell beyond its places could become alive by them,"
                + " whatever the rule: if it is empty, or its BOX, made greater by n on each side, lies within its"
                + " places.");
        int[] many = {1, 2, 3, 31, 32, 63, 64};
        for (String rule : CALM) {
            for (int n : many) {
                int[][] places = {{-128 + n, 0}, {127 - n, 0}, {0, -128 + n}, {0, 127 - n}};
                for (int[] place : places) {
                    stepsAt(rule, place[0], place[1], n);
                }
            }
        }
        CellMuseum wide = field("B/S012345678/M");
        Check.read(wide, 0, -127, -127, "o253bo253$o253bo!");
        box(wide, 0, -127, -127, 127, 126);
        Check.due("a box with no room on the right", wide.steps(0, 1), NOT);
        wide.put(0, 127, -127, 0);
        wide.put(0, 127, 126, 0);
        wide.put(0, 126, 126, 1);
        Check.due("a box with room for one step on each side", wide.steps(0, 1), 1);
        Check.due("and not for two", wide.steps(0, 2), NOT);
    }

    private static void deadBeyondThePlaces() {
        Check.sentence("Cells beyond them are dead always.");
        String[] growing = {"B12345678/S012345678/M", "B1234/S01234/V", "B123456/S0123456/X"};
        int[][] corners = {{-64, -64}, {63, -64}, {-64, 63}, {63, 63}};
        for (String rule : growing) {
            for (int[] c : corners) {
                CellMuseum m = field(rule);
                m.put(0, c[0], c[1], 1);
                Check.due("64 steps up to the rims", m.steps(0, 64), 64);
                box(m, 0, c[0] - 64, c[1] - 64, c[0] + 64, c[1] + 64);
                Check.due("nothing has come round", m.at(0, c[0] < 0 ? 127 : -128, c[1]), 0);
                Check.due("nothing has come round", m.at(0, c[0], c[1] < 0 ? 127 : -128), 0);
                Check.due("beyond in x", m.at(0, c[0] < 0 ? -129 : 128, c[1]), BAD);
                Check.due("beyond in y", m.at(0, c[0], c[1] < 0 ? -129 : 128), BAD);
            }
        }
    }

    private static void stepsAt(String rule, int x, int y, int n) {
        CellMuseum m = field(rule);
        m.put(0, x, y, 1);
        if (n < 64) {
            Check.due("steps(0, " + (n + 1) + ") from " + x + ", " + y, m.steps(0, n + 1), NOT);
            Check.due("steps(0, 64)", m.steps(0, 64), NOT);
            Check.due("jump(0, 6)", m.jump(0, 6), NOT);
        }
        Check.due("the field stays", m.at(0, x, y), 1);
        Check.due("its generation stays", m.about(0, 5), 0);
        Check.due("steps(0, " + n + ") from " + x + ", " + y, m.steps(0, n), n);
    }

    private static void stepsOfAnEmptyField() {
        Check.sentence("if it is empty");
        CellMuseum m = field("B/S/M");
        Check.due("steps(0, 64)", m.steps(0, 64), 64);
        Check.due("jump(0, 6)", m.jump(0, 6), 128);
        m.put(0, 100, 100, 1);
        Check.due("steps of what dies at once", m.steps(0, 1), 129);
        Check.due("steps of what has died", m.steps(0, 64), 193);
        Check.due("about(0, 0)", m.about(0, 0), 0);
        text(m, 0, "!");
    }

    private static void howManySteps() {
        Check.sentence("n STEPS are done (n 0 .. 64): the FIELD's generation then. BAD. NOT: they are not DONE.");
        CellMuseum m = field("B1/S012345678/M");
        Check.due("steps(0, -1)", m.steps(0, -1), BAD);
        Check.due("steps(0, 65)", m.steps(0, 65), BAD);
        Check.due("steps(1, 1)", m.steps(1, 1), BAD);
        Check.due("steps(-1, 0)", m.steps(-1, 0), BAD);
        for (int far : FAR) {
            Check.due("steps(0, " + far + ")", m.steps(0, far), BAD);
            Check.due("steps(" + far + ", 1)", m.steps(far, 1), BAD);
        }
        Check.due("about(0, 5)", m.about(0, 5), 0);
        m.put(0, -64, -64, 1);
        Check.due("steps(0, 64)", m.steps(0, 64), 64);
        box(m, 0, -128, -128, 0, 0);
        Check.due("NOT", m.steps(0, 1), NOT);
        Check.due("BAD comes before NOT", m.steps(0, 65), BAD);
        Check.due("about(0, 5)", m.about(0, 5), 64);
        box(m, 0, -128, -128, 0, 0);
    }

    private static void jumps() {
        Check.sentence("2 to the k STEPS are done (k 0 .. 6): likewise.");
        for (int k = 0; k <= 6; k++) {
            CellMuseum m = field("B1/S012345678/M");
            m.put(0, -128 + (1 << k), 127 - (1 << k), 1);
            if (k < 6) {
                Check.due("jump(0, " + (k + 1) + ")", m.jump(0, k + 1), NOT);
            }
            Check.due("jump(0, " + k + ")", m.jump(0, k), 1 << k);
            box(m, 0, -128, 127 - 2 * (1 << k), -128 + 2 * (1 << k), 127);
            Check.due("jump(0, 0)", m.jump(0, 0), NOT);
            Check.due("BAD comes before NOT", m.jump(0, 7), BAD);
            Check.due("about(0, 5)", m.about(0, 5), 1 << k);
        }
        CellMuseum m = field(LIFE);
        Check.due("jump(0, -1)", m.jump(0, -1), BAD);
        Check.due("jump(0, 7)", m.jump(0, 7), BAD);
        Check.due("jump(0, 32)", m.jump(0, 32), BAD);
        Check.due("jump(1, 0)", m.jump(1, 0), BAD);
        Check.due("jump(-1, 0)", m.jump(-1, 0), BAD);
        for (int far : FAR) {
            Check.due("jump(0, " + far + ")", m.jump(0, far), BAD);
            Check.due("jump(" + far + ", 1)", m.jump(far, 1), BAD);
        }
        Check.due("about(0, 5)", m.about(0, 5), 0);
    }

    // ---- about

    private static void aboutWhat() {
        Check.sentence("1 .. 4 the least x, least y, greatest x, greatest y of its BOX (0 without one)");
        CellMuseum m = field(LIFE);
        Check.rule(m, "B/S0/X");
        m.field(1);
        box(m, 1, 0, 0, 0, 0);
        m.put(1, -1, -1, 1);
        Check.sentence("BAD: there is no field f, or what (an answer may be -1, too).");
        box(m, 1, -1, -1, -1, -1);
        Check.due("about(1, 0)", m.about(1, 0), 1);
        Check.due("about(1, 5)", m.about(1, 5), 0);
        Check.due("about(1, 6)", m.about(1, 6), 1);
        Check.due("about(0, 6)", m.about(0, 6), 0);
        Check.due("about(0, -1)", m.about(0, -1), BAD);
        Check.due("about(0, 8)", m.about(0, 8), BAD);
        Check.due("about(2, 0)", m.about(2, 0), BAD);
        Check.due("about(-1, 0)", m.about(-1, 0), BAD);
        for (int far : FAR) {
            Check.due("about(0, " + far + ")", m.about(0, far), BAD);
            Check.due("about(" + far + ", 0)", m.about(far, 0), BAD);
        }
        m.remove(1);
        Check.due("about(1, 6) of a field that went", m.about(1, 6), BAD);
        CellMuseum whole = field(LIFE);
        for (int y = -128; y < 128; y += 64) {
            Check.read(whole, 0, -128, y, "256o$".repeat(64) + "!");
        }
        Check.sentence("Of a FIELD: 0 how many cells are alive");
        Check.due("about(0, 0) of a full field", whole.about(0, 0), 65536);
        box(whole, 0, -128, -128, 127, 127);
        Check.due("empty(0)", whole.empty(0), 65536);
        CellMuseum sixteen = Check.with("B0/S/M");
        for (int r = 1; r < 16; r++) {
            Check.rule(sixteen, LIFE);
        }
        sixteen.field(15);
        Check.due("about(0, 6) of the last rule", sixteen.about(0, 6), 15);
    }

    private static int blocks(String... runs) {
        CellMuseum m = field(LIFE);
        for (String run : runs) {
            Check.read(m, 0, -128, -128, run);
        }
        return m.about(0, 7);
    }

    private static void differentBlocks() {
        Check.sentence("the whole of 256 by 256 places, each square into four of half the side, down to squares of"
                + " side 2. DIFFERENT BLOCKS: how many there are of these squares of all sides, those with the same"
                + " side and the same cells counting once.");
        Check.due("none alive: one of each of eight sides", blocks("!"), 8);
        Check.due("the upper left cell: two of each side but 256", blocks("o!"), 15);
        Check.due("the upper right cell", blocks("255bo!"), 15);
        Check.due("the lower left cell", blocks("255$o!"), 15);
        Check.due("the lower right cell", blocks("255$255bo!"), 15);
        Check.due("two cells in one square of side 2", blocks("2o!"), 15);
        Check.due("two cells in two squares of side 2, alike", blocks("obo!"), 15);
        Check.due("two cells in two squares of side 2, not alike", blocks("o2bo!"), 16);
        Check.due("two cells in squares of side 4, alike", blocks("o3bo!"), 15);
        // Each has a corner square of its own; of side 128 no square is left for the empty one.
        Check.due("the middle four cells", blocks("127$127b2o$127b2o!"), 1 + 4 + 5 * 6);
        // One full half: side 256 has one, all others have the full and the empty one.
        String[] rows = {"256o$".repeat(64) + "!", "64$" + "256o$".repeat(64) + "!"};
        Check.due("the upper half", blocks(rows), 1 + 2 * 7);
        String[] all = {rows[0], rows[1], "128$" + "256o$".repeat(64) + "!", "192$" + "256o$".repeat(64) + "!"};
        Check.due("all alive: one of each side", blocks(all), 8);
        Check.due("all alive but the last", blocks(all[0], all[1], all[2], all[3], "255$255bb!"), 15);
        // All sixteen squares of side 2 in a line, so that each square of a greater side in it is another one.
        StringBuilder upper = new StringBuilder();
        StringBuilder lower = new StringBuilder();
        for (int k = 0; k < 16; k++) {
            upper.append((k & 1) != 0 ? 'o' : 'b').append((k & 2) != 0 ? 'o' : 'b');
            lower.append((k & 4) != 0 ? 'o' : 'b').append((k & 8) != 0 ? 'o' : 'b');
        }
        // Side 2: 16; 4: 8 and the empty one; 8: 4 and one; 16: 2 and one; 32, 64, 128: one and one; 256: one.
        Check.due("all squares of side 2", blocks(upper + "$" + lower + "!"), 16 + 9 + 5 + 3 + 2 + 2 + 2 + 1);
        Check.sentence("those with the same side and the same cells counting once");
        // A square of side 2 that is full is not the same as one of side 4 that is full.
        Check.due("full squares of sides 2 and 4", blocks("4o$4o$4o$4o!"), 15);
    }

    private static String[] rows(String row, int many) {
        String[] runs = new String[(many + 7) / 8];
        for (int k = 0; k < runs.length; k++) {
            runs[k] = (k == 0 ? "" : 8 * k + "$") + (row + "$").repeat(Math.min(8, many - 8 * k)) + "!";
        }
        return runs;
    }

    private static void emptyBlocks() {
        Check.sentence("how many there are of these squares of all sides");
        Check.due("the lower half", blocks("128$" + "256o$".repeat(64) + "!", "192$" + "256o$".repeat(64) + "!"),
                1 + 2 * 7);
        Check.due("the right half", blocks(rows("128b128o", 256)), 1 + 2 * 7);
        // Of side 2 there is an empty square; of all others those at the rim have dead cells and alive ones.
        Check.due("all but the last two columns", blocks(rows("254o", 256)), 2 + 2 * 6 + 1);
        Check.due("all but the first two columns", blocks(rows("2b254o", 256)), 2 + 2 * 6 + 1);
        Check.due("all but the last two rows", blocks(rows("256o", 254)), 2 + 2 * 6 + 1);
        Check.due("all but the last column", blocks(rows("255o", 256)), 2 * 7 + 1);
        Check.due("all but the last 128 columns and rows", blocks(rows("128o", 128)), 1 + 2 * 7);
        // Side 8: one with three empty squares of side 4, one with none; 16, 32 .. 128: two; 256: one.
        Check.due("an empty square is not the first that is found", blocks("o7bo3bo4$8bo3bo!"), 2 + 2 + 3 + 4 * 2 + 1);
        Check.due("an empty square behind others", blocks("o11b3o$12bo!"), 3 + 3 + 3 + 4 * 2 + 1);
    }

    private static void blocksAskedBefore() {
        Check.sentence("7 how many DIFFERENT BLOCKS");
        String[] texts = {"o!", "255$255bo!", "127$127b2o$127b2o!", "3o$o$bo!", "100$77b3o2bo$80b5o!", "o254bo!",
            "2o$2o!"};
        CellMuseum m = fields("B1357/S1357/M", 2);
        Check.read(m, 0, -2, -2, "ob3o$2ob2o$o3bo!");
        for (int k = 0; k < texts.length; k++) {
            m.empty(1);
            Check.read(m, 1, -128, -128, texts[k]);
            int alone = blocks(texts[k]);
            // A field that is full of others is asked in between, and what was seen of it does not stay.
            Check.due("the blocks of the other field", m.about(0, 7) > 8);
            Check.due("the blocks of " + texts[k], m.about(1, 7), alone);
            m.steps(0, 1 + 4 * k);
        }
    }

    // ---- period and shift

    private static void periodsUpToMost() {
        Check.sentence("The least p from 1 up to most (1 .. 60)");
        CellMuseum m = field(LIFE);
        Check.read(m, 0, 0, 0, "3o!");
        Check.due("a blinker, most 1", m.period(0, 1), 0);
        Check.due("a blinker, most 2", m.period(0, 2), 2);
        Check.due("a blinker, most 60", m.period(0, 60), 2);
        m.empty(0);
        Check.read(m, 0, 0, 0, "2o$2o!");
        Check.due("a block, most 1", m.period(0, 1), 1);
        Check.due("a block, most 60", m.period(0, 60), 1);
        m.empty(0);
        Check.read(m, 0, 0, 0, "bo$2bo$3o!");
        Check.due("a glider, most 3", m.period(0, 3), 0);
        Check.due("a glider, most 4", m.period(0, 4), 4);
        Check.sentence("The field stays. BAD. NOT: most STEPS are not DONE.");
        text(m, 0, "bo$2bo$3o!");
        Check.due("about(0, 5)", m.about(0, 5), 0);
        Check.due("period(0, 0)", m.period(0, 0), BAD);
        Check.due("period(0, 61)", m.period(0, 61), BAD);
        Check.due("period(0, -1)", m.period(0, -1), BAD);
        Check.due("period(1, 1)", m.period(1, 1), BAD);
        Check.due("period(-1, 1)", m.period(-1, 1), BAD);
        for (int far : FAR) {
            Check.due("period(0, " + far + ")", m.period(0, far), BAD);
            Check.due("period(" + far + ", 1)", m.period(far, 1), BAD);
        }
        // The queen bee shuttle with two blocks has period 30, the pentadecathlon 15.
        CellMuseum slow = fields(LIFE, 2);
        Check.read(slow, 0, -10, 0, "9bo$7bobo$6bobo$2o3bo2bo11b2o$2o4bobo11b2o$7bobo$9bo!");
        Check.due("a shuttle, most 29", slow.period(0, 29), 0);
        Check.due("a shuttle, most 30", slow.period(0, 30), 30);
        Check.due("a shuttle, most 60", slow.period(0, 60), 30);
        Check.read(slow, 1, -5, 0, "10o!");
        Check.due("ten in a row are not yet what they will be again", slow.period(1, 60), 0);
        slow.steps(1, 20);
        Check.due("a pentadecathlon, most 14", slow.period(1, 14), 0);
        Check.due("a pentadecathlon, most 15", slow.period(1, 15), 15);
        // Periods 15 and 2 side by side have 30 together.
        Check.read(slow, 1, 30, 30, "3o!");
        Check.due("with a blinker", slow.period(1, 60), 30);
    }

    private static void periodsOfNothing() {
        Check.sentence("(0, 0) if it has none; 0 if there is none");
        CellMuseum m = fields(LIFE, 2);
        Check.read(m, 0, 0, 0, "bo$2bo$3o!");
        m.period(0, 4);
        Check.due("shift(0)", m.shift(0), 1);
        Check.due("an empty field, most 1", m.period(1, 1), 1);
        Check.due("shift(0)", m.shift(0), 0);
        Check.due("shift(1)", m.shift(1), 0);
        m.period(0, 4);
        Check.due("an empty field, most 60", m.period(1, 60), 1);
        Check.due("shift(1)", m.shift(1), 0);
        m.put(1, 50, 50, 1);
        Check.due("what dies is not as now", m.period(1, 60), 0);
        Check.due("the field stays", m.at(1, 50, 50), 1);
        m.steps(1, 1);
        Check.due("what has died", m.period(1, 60), 1);
    }

    private static void periodsAcrossThePlaces() {
        Check.sentence("such that after p STEPS the alive cells of a FIELD are as now, all moved by the same (x, y)");
        // Blocks in the corners hold the box, and a blinker between them stands at each place of a word.
        for (int x = -68; x <= 68; x++) {
            CellMuseum m = field(LIFE);
            Check.read(m, 0, -118, -118, "2o232b2o$2o232b2o!");
            Check.read(m, 0, -118, 116, "2o232b2o$2o232b2o!");
            Check.read(m, 0, x, x, "3o!");
            Check.due("a blinker at " + x, m.period(0, 9), 2);
            Check.due("shift(0)", m.shift(0), 0);
        }
        for (int x = -67; x <= 66; x++) {
            CellMuseum m = field(LIFE);
            Check.read(m, 0, x, -x, "bo$2bo$3o!");
            Check.due("a glider at " + x, m.period(0, 5), 4);
            Check.due("shift(0)", m.shift(0), 1);
            Check.due("shift(1)", m.shift(1), 1);
        }
        notYet("B2/S12/V", "ob$bo$oo!", "the first row");
        notYet("B2/S123/V", "boo$obo!", "the first column");
        notYet("B2/S013/V", "ob$bo$oo!", "the last column");
        notYet("B2/S013/V", "o62bo$64bo$63b2o!", "the last column of 65");
        // Two that are not moved by the same.
        CellMuseum m = field(LIFE);
        Check.read(m, 0, -20, 0, "bo$2bo$3o!");
        Check.read(m, 0, 20, 0, "3o$o$bo!");
        Check.due("two gliders that part", m.period(0, 20), 0);
        m.empty(0);
        Check.read(m, 0, -20, 0, "bo$2bo$3o!");
        Check.read(m, 0, 20, 0, "bo$2bo$3o!");
        Check.due("two gliders one way", m.period(0, 20), 4);
        m.steps(0, 1);
        Check.read(m, 0, -60, 0, "bo$2bo$3o!");
        Check.due("three gliders one way", m.period(0, 20), 4);
    }

    /** A step leaves as many cells alive, in the same box, and all as they were but for some at a rim. */
    private static void notYet(String rule, String cells, String rim) {
        CellMuseum m = field(rule);
        Check.read(m, 0, -30, -30, cells);
        int alive = m.about(0, 0);
        Check.due("as before but for " + rim, m.period(0, 1), 0);
        m.steps(0, 1);
        Check.due("about(0, 0)", m.about(0, 0), alive);
        Check.due("about(0, 1)", m.about(0, 1), -30);
        Check.due("about(0, 2)", m.about(0, 2), -30);
    }

    private static void periodsOfWhatIsLeft() {
        Check.sentence("such that after p STEPS the alive cells of a FIELD are as now, all moved by the same (x, y)");
        // A block stays and a cell by itself dies: all that is left is as now, but it is not all that is now.
        int[][] places = {{0, 20}, {0, -20}, {20, 0}, {-20, 0}, {20, 20}, {-20, -20}, {0, 66}, {66, 0}, {-66, -66}};
        for (int[] place : places) {
            CellMuseum m = field(LIFE);
            Check.read(m, 0, 0, 0, "2o$2o!");
            m.put(0, place[0], place[1], 1);
            Check.due("a block and a cell at " + place[0] + ", " + place[1], m.period(0, 50), 0);
            m.steps(0, 1);
            Check.due("the block alone", m.period(0, 50), 1);
            Check.due("shift(0)", m.shift(0), 0);
            Check.due("shift(1)", m.shift(1), 0);
        }
        // What has grown has a part that is as now, too.
        CellMuseum more = field("B1/S0/V");
        more.put(0, 5, 5, 1);
        Check.due("a cell that becomes five", more.period(0, 1), 0);
    }

    private static void periodsNearTheRim() {
        Check.sentence("NOT: most STEPS are not DONE.");
        int[] many = {1, 2, 59, 60};
        for (int most : many) {
            int[][] places = {{-128 + most, 0}, {126 - most, 0}, {0, -128 + most}, {0, 126 - most}};
            for (int[] place : places) {
                CellMuseum m = field(LIFE);
                Check.read(m, 0, place[0], place[1], "2o$2o!");
                if (most < 60) {
                    Check.due("period(0, " + (most + 1) + ")", m.period(0, most + 1), NOT);
                    Check.due("period(0, 60)", m.period(0, 60), NOT);
                }
                Check.due("BAD comes before NOT", m.period(0, 61), BAD);
                Check.due("period(0, " + most + ")", m.period(0, most), 1);
            }
        }
        // It is most that is asked, though a lesser p would be found.
        CellMuseum m = field(LIFE);
        Check.read(m, 0, -126, 0, "2o$2o!");
        Check.due("two steps are done", m.period(0, 2), 1);
        Check.due("three are not", m.period(0, 3), NOT);
    }

    private static void shifts() {
        Check.sentence("By how much in x (axis 0), y (1) the pattern was moved that the latest period() above 0 found;"
                + " 0 before any.");
        CellMuseum m = fields(LIFE, 3);
        Check.due("shift(0)", m.shift(0), 0);
        Check.due("shift(1)", m.shift(1), 0);
        Check.read(m, 0, 0, 0, "3o$o$bo!");
        Check.due("a glider, most 3", m.period(0, 3), 0);
        Check.due("shift(0) after 0", m.shift(0), 0);
        Check.due("a glider", m.period(0, 4), 4);
        Check.sentence("BAD: another axis (it may be -1, too).");
        Check.due("shift(0)", m.shift(0), -1);
        Check.due("shift(1)", m.shift(1), -1);
        Check.due("shift(2)", m.shift(2), BAD);
        Check.due("shift(-1)", m.shift(-1), BAD);
        for (int far : FAR) {
            Check.due("shift(" + far + ")", m.shift(far), BAD);
        }
        Check.sentence("the latest period() above 0");
        Check.read(m, 1, 0, 0, "o$bo$3o!");
        Check.due("0 is not above 0", m.period(1, 1), 0);
        Check.due("BAD is not above 0", m.period(0, 61), BAD);
        Check.read(m, 2, -128, -128, "2o$2o!");
        Check.due("NOT is not above 0", m.period(2, 1), NOT);
        Check.due("shift(0)", m.shift(0), -1);
        Check.due("shift(1)", m.shift(1), -1);
        m.remove(1);
        m.empty(0);
        Check.due("shift(0) of a field that was emptied", m.shift(0), -1);
        CellMuseum far = field(LIFE);
        Check.read(far, 0, -60, -60, "bo2bo$o$o3bo$4o!");
        Check.due("a ship, most 60", far.period(0, 60), 4);
        Check.due("shift(0)", far.shift(0), -2);
        Check.due("shift(1)", far.shift(1), 0);
    }

    // ---- congruent and empty

    private static void congruence() {
        Check.sentence("1 if the alive cells of two FIELDS are the same but for a move and one of the eight turns of a"
                + " square (mirrored ones, too), else 0. BAD.");
        // All eight turns of 3o$o!, from the corners of all places.
        String[] turns = {"3o$o!", "3o$2bo!", "o$3o!", "2bo$3o!", "2o$o$o!", "2o$bo$bo!", "o$o$2o!", "bo$bo$2o!"};
        CellMuseum m = fields(LIFE, 3);
        Check.read(m, 0, -128, -128, turns[0]);
        for (String turn : turns) {
            m.empty(1);
            boolean wide = turn.indexOf('3') >= 0 || turn.indexOf('2') == 0 && turn.charAt(1) == 'b';
            Check.read(m, 1, wide ? 125 : 126, wide ? 126 : 125, turn);
            Check.due(turns[0] + " and " + turn, m.congruent(0, 1), 1);
            Check.due(turn + " and " + turns[0], m.congruent(1, 0), 1);
        }
        String[] others = {"4o!", "3o$bo!", "3o2$o!", "2o$2o!", "2obo!", "2o$b2o!", "3o3bo!"};
        for (String other : others) {
            m.empty(1);
            Check.read(m, 1, 0, 0, other);
            Check.due(turns[0] + " and " + other, m.congruent(0, 1), 0);
        }
        // A pattern with no turn the same as itself, and all of one field.
        Check.read(m, 2, -128, -128, "o254bo255$253bo!");
        Check.due("a field and itself", m.congruent(2, 2), 1);
        m.empty(1);
        Check.read(m, 1, -128, -128, "bbo255$o254bo!");
        Check.due("the whole of the places, turned by two quarters", m.congruent(1, 2), 1);
        m.put(1, -126, -128, 0);
        m.put(1, -127, -128, 1);
        Check.due("one cell elsewhere", m.congruent(1, 2), 0);
        Check.due("congruent(0, 3)", m.congruent(0, 3), BAD);
        Check.due("congruent(3, 0)", m.congruent(3, 0), BAD);
        Check.due("congruent(-1, -1)", m.congruent(-1, -1), BAD);
        for (int far : FAR) {
            Check.due("congruent(0, " + far + ")", m.congruent(0, far), BAD);
            Check.due("congruent(" + far + ", 0)", m.congruent(far, 0), BAD);
        }
    }

    private static void congruenceAtTheRims() {
        Check.sentence("1 if the alive cells of two FIELDS are the same but for a move and one of the eight turns of a"
                + " square (mirrored ones, too), else 0.");
        // As many cells and as great a box, but for one cell that stands elsewhere in a column or row at the rim.
        String[][] pairs = {{"o2bo$o$2bo$2bo!", "o2bo$o$2bo$o!"}, {"2obo$4bo$2bo$o!", "2obo2$2bobo$o!"},
            {"3o$o$bo$4bo!", "3o$o$bo2bo2$!"}, {"5o$o$o2$2bo!", "5o$o$o2$3bo!"}, {"4o$4bo$4bo!", "4o2$4bo$4bo!"}};
        for (String[] pair : pairs) {
            CellMuseum m = fields(LIFE, 2);
            Check.read(m, 0, -128, 100, pair[0]);
            Check.read(m, 1, 100, -128, pair[1]);
            Check.due(pair[0] + " and " + pair[1], m.congruent(0, 1), 0);
            Check.due(pair[1] + " and " + pair[0], m.congruent(1, 0), 0);
        }
    }

    private static void congruenceOfNothing() {
        Check.sentence("1 if the alive cells of two FIELDS are the same but for a move and one of the eight turns of a"
                + " square (mirrored ones, too), else 0.");
        CellMuseum m = fields(LIFE, 2);
        Check.rule(m, "B/S/V");
        m.field(1);
        Check.due("two empty fields", m.congruent(0, 1), 1);
        Check.due("an empty field and itself", m.congruent(0, 0), 1);
        Check.due("two empty fields of two rules", m.congruent(0, 2), 1);
        m.put(0, -128, -128, 1);
        Check.due("one cell and none", m.congruent(0, 1), 0);
        Check.due("none and one cell", m.congruent(1, 0), 0);
        m.put(2, 127, 127, 1);
        Check.due("one cell each, of two rules", m.congruent(0, 2), 1);
        // However a field came to be empty.
        int[][] shapes = {{0, 0}, {50, 0}, {0, 50}, {-60, -60}, {0, 0, 50, 0}, {0, 0, 0, 50}, {60, -60, -60, 60}};
        for (int[] cells : shapes) {
            CellMuseum emptied = fields(LIFE, 5);
            for (int k = 0; k < cells.length; k += 2) {
                for (int f = 0; f < 4; f++) {
                    emptied.put(f, cells[k], cells[k + 1], 1);
                }
            }
            emptied.empty(0);
            emptied.steps(1, 1);
            for (int k = 0; k < cells.length; k += 2) {
                Check.read(emptied, 2, cells[k], cells[k + 1], "b!");
                emptied.put(3, cells[k], cells[k + 1], 0);
            }
            allEmpty(emptied, 5);
        }
    }

    private static void allEmpty(CellMuseum m, int many) {
        for (int f = 0; f < many; f++) {
            Check.due("about(" + f + ", 0)", m.about(f, 0), 0);
            box(m, f, 0, 0, 0, 0);
            for (int g = 0; g < many; g++) {
                Check.due("two empty fields, " + f + " and " + g, m.congruent(f, g), 1);
            }
            Check.due("the period of field " + f, m.period(f, 60), 1);
        }
    }

    private static void emptying() {
        Check.sentence("All cells of a FIELD are dead, its generation 0: how many were alive. BAD.");
        CellMuseum m = fields(LIFE, 2);
        Check.read(m, 0, -128, -128, "2o$2o!");
        Check.read(m, 1, 0, 0, "2o$2o!");
        m.steps(1, 5);
        Check.due("empty(1)", m.empty(1), 4);
        Check.due("about(1, 5)", m.about(1, 5), 0);
        Check.due("about(1, 0)", m.about(1, 0), 0);
        box(m, 1, 0, 0, 0, 0);
        Check.due("empty(1) again", m.empty(1), 0);
        m.steps(1, 5);
        Check.due("empty(1) of an empty field with a generation", m.empty(1), 0);
        Check.due("about(1, 5)", m.about(1, 5), 0);
        Check.due("the other field stays", m.about(0, 0), 4);
        Check.due("its rule stays", m.about(1, 6), 0);
        Check.due("empty(2)", m.empty(2), BAD);
        Check.due("empty(-1)", m.empty(-1), BAD);
        for (int far : FAR) {
            Check.due("empty(" + far + ")", m.empty(far), BAD);
        }
        Check.due("empty(0)", m.empty(0), 4);
        Check.due("steps are done then", m.steps(0, 64), 64);
    }
}
