/** Promises 6 to 17: field, put, at, read, textByte, steps, jump, about, period, shift, congruent, empty. */
public final class FieldTest {
    private static final String LIFE = "B3/S23/M";
    private static final String GLIDER = "bo$2bo$3o!";

    public static void main(String[] args) {
        fields();
        putAndAt();
        readCells();
        readFaults();
        readRefusals();
        texts();
        neighbourhoods();
        stepsAndJumps();
        stepsAtTheRim();
        about();
        differentBlocks();
        periods();
        periodAcrossWords();
        congruence();
        emptying();
        Check.end("FieldTest");
    }

    private static CellMuseum life() {
        CellMuseum m = Check.with(LIFE);
        Check.due("field(0)", m.field(0), 0);
        return m;
    }

    private static void fields() {
        CellMuseum m = Check.with(LIFE);
        Check.rule(m, "B03/S23/M");
        Check.rule(m, Check.blockText(2, Check.identity(2)));
        Check.rule(m, "B2/S0/V");
        Check.due("field(-1)", m.field(-1), CellMuseum.BAD);
        Check.due("field(4)", m.field(4), CellMuseum.BAD);
        Check.due("field of a rule with 0 in BORN", m.field(1), CellMuseum.NOT);
        Check.due("field of a block rule", m.field(2), CellMuseum.NOT);
        for (int k = 0; k < 8; k++) {
            Check.due("field " + k, m.field(k % 2 * 3), k);
        }
        Check.due("field 8", m.field(0), CellMuseum.FULL);
        Check.due("NOT comes before FULL", m.field(1), CellMuseum.NOT);
        Check.due("BAD comes before FULL", m.field(9), CellMuseum.BAD);
        Check.due("count(1)", m.count(1), 8);
        Check.due("about(1, 6)", m.about(1, 6), 3);
        m.put(7, 3, 3, 1);
        m.steps(7, 2);
        m.remove(1);
        Check.due("a field in the place of one that went", m.field(0), 7);
        Check.due("its cells", m.about(7, 0), 0);
        Check.due("its generation", m.about(7, 5), 0);
        Check.due("its rule", m.about(7, 6), 0);
    }

    private static void putAndAt() {
        CellMuseum m = life();
        m.field(0);
        int[] edges = {-128, -65, -64, -1, 0, 63, 64, 127};
        for (int x : edges) {
            for (int y : edges) {
                Check.due("put(1)", m.put(0, x, y, 1), 0);
                Check.due("at", m.at(0, x, y), 1);
                Check.due("at of another field", m.at(1, x, y), 0);
                Check.due("put(1) again", m.put(0, x, y, 1), 1);
            }
        }
        Check.due("about(0, 0)", m.about(0, 0), 64);
        Check.due("at of a cell between", m.at(0, 1, 0), 0);
        Check.due("put(0)", m.put(0, 0, 0, 0), 1);
        Check.due("put(0) again", m.put(0, 0, 0, 0), 0);
        Check.due("at", m.at(0, 0, 0), 0);
        int[][] none = {{-1, 0, 0, 1}, {2, 0, 0, 1}, {0, -129, 0, 1}, {0, 128, 0, 1}, {0, 0, -129, 1}, {0, 0, 128, 1},
            {0, Integer.MAX_VALUE, 0, 1}, {0, 0, Integer.MIN_VALUE, 1}};
        for (int[] n : none) {
            Check.due("put at no place", m.put(n[0], n[1], n[2], n[3]), CellMuseum.BAD);
            Check.due("at no place", m.at(n[0], n[1], n[2]), CellMuseum.BAD);
        }
        Check.due("put of 2", m.put(0, 0, 0, 2), CellMuseum.BAD);
        Check.due("put of -1", m.put(0, 0, 0, -1), CellMuseum.BAD);
        Check.due("about(0, 0)", m.about(0, 0), 63);
    }

    private static void readCells() {
        CellMuseum m = life();
        Check.due("read of a glider", Check.read(m, 0, 10, 20, GLIDER), 5);
        Check.due("the tape is empty then", m.count(5), 0);
        Check.due("at(11, 20)", m.at(0, 11, 20), 1);
        Check.due("at(10, 20)", m.at(0, 10, 20), 0);
        Check.due("at(12, 21)", m.at(0, 12, 21), 1);
        Check.due("at(10, 22)", m.at(0, 10, 22), 1);
        // b kills, what is behind the last letter of a row stays, and so do rows that $ passes.
        Check.due("read over it", Check.read(m, 0, 10, 20, "2b2$b!"), 0);
        Check.due("at(11, 20)", m.at(0, 11, 20), 0);
        Check.due("at(12, 21)", m.at(0, 12, 21), 1);
        Check.due("at(10, 22)", m.at(0, 10, 22), 0);
        Check.due("at(11, 22)", m.at(0, 11, 22), 1);
        Check.due("text", Check.fieldText(m, 0).equals("bo$2o!"));
        Check.due("the generation stays", m.about(0, 5), 0);
        CellMuseum blanks = life();
        Check.due("blanks", Check.read(blanks, 0, 0, 0, " \n 2o \n$ 10b\no ! \n "), 3);
        Check.due("text", Check.fieldText(blanks, 0).equals("2o$10bo!"));
        Check.due("! alone", Check.read(blanks, 0, 0, 0, "!"), 0);
        Check.due("$ far beyond, with no cell there", Check.read(blanks, 0, 127, 127, "o999$99$!"), 1);
        Check.due("a row of all places", Check.read(blanks, 0, -128, -128, "256o!"), 256);
        Check.due("a $ in front", Check.read(blanks, 0, -128, -127, "3$o!"), 1);
        Check.due("the row below", blanks.at(0, -128, -124), 1);
    }

    private static void fault(String text, int place) {
        CellMuseum m = life();
        Check.due("read of " + text, Check.read(m, 0, 0, 0, text), -10 - place);
        Check.due("the tape is empty then", m.count(5), 0);
        Check.due("nothing is alive", m.about(0, 0), 0);
    }

    private static void readFaults() {
        fault("", 0);
        fault("o", 1);
        fault("o$ ", 3);
        fault("0o!", 0);
        fault("01o!", 0);
        fault("o02b!", 1);
        fault("1o!", 0);
        fault("o1b!", 1);
        fault("1", 0);
        fault("1 o!", 0);
        fault("1!", 0);
        fault("12", 2);
        fault("1000o!", 3);
        fault("12345o!", 3);
        fault("2 o!", 1);
        fault("2\no!", 1);
        fault("1 2o!", 0);
        fault("23!", 2);
        fault("o!o", 2);
        fault("o!!", 2);
        fault("o! \n.", 4);
        fault("o\r!", 1);
        fault("ox!", 1);
        fault("O!", 0);
        fault("-2o!", 0);
        fault("o\u00ff!", 1);
        // A fault comes before a cell that is beyond.
        fault("300o", 4);
    }

    private static void readRefusals() {
        CellMuseum m = life();
        Check.read(m, 0, 0, 0, "2o!");
        Check.due("read into no field", Check.read(m, 1, 0, 0, "o!"), CellMuseum.BAD);
        Check.due("the tape is empty then", m.count(5), 0);
        Check.due("read at no place", Check.read(m, 0, 128, 0, "o!"), CellMuseum.BAD);
        Check.due("the tape is empty then", m.count(5), 0);
        Check.due("read at no place, with a fault", Check.read(m, 0, 0, -129, "x"), CellMuseum.BAD);
        Check.due("beyond the right", Check.read(m, 0, 0, 0, "2b$129o!"), CellMuseum.NOT);
        Check.due("the tape is empty then", m.count(5), 0);
        Check.due("beyond the right, dead", Check.read(m, 0, 127, 0, "2b!"), CellMuseum.NOT);
        Check.due("below all", Check.read(m, 0, 0, 127, "o$o!"), CellMuseum.NOT);
        Check.due("below all, dead", Check.read(m, 0, 0, -128, "b256$b!"), CellMuseum.NOT);
        Check.due("the last row", Check.read(m, 0, 0, -128, "255$o!"), 1);
        Check.due("NOT has changed nothing", m.about(0, 0), 3);
        Check.due("NOT has changed nothing", m.at(0, 0, 0), 1);
    }

    private static void texts() {
        CellMuseum m = life();
        Check.due("the text of an empty field", Check.fieldText(m, 0).equals("!"));
        String[] same = {"bo$2bo$3o!", "o!", "256o!", "o254bo!", "o255$o!", "2o$2o!", "o10bo99$9b12o3$100o!",
            "obobo$bo!"};
        for (String text : same) {
            m.empty(0);
            Check.due("read of " + text, Check.read(m, 0, -128, -128, text) > 0);
            Check.due("the text of " + text, Check.fieldText(m, 0).equals(text));
            Check.due("behind it", m.textByte(0, text.length()), 0);
        }
        m.empty(0);
        Check.read(m, 0, 5, 5, "3b$3$4bo2b$3bo4b$2$!");
        Check.due("blank rows and ends are left out", Check.fieldText(m, 0).equals("bo$o!"));
        Check.due("textByte(0, -1)", m.textByte(0, -1), 0);
        Check.due("textByte(0, min)", m.textByte(0, Integer.MIN_VALUE), 0);
        Check.due("textByte(0, max)", m.textByte(0, Integer.MAX_VALUE), 0);
        Check.due("textByte(1, 0)", m.textByte(1, 0), CellMuseum.BAD);
        Check.due("textByte(-1, 0)", m.textByte(-1, 0), CellMuseum.BAD);
    }

    private static void neighbourhoods() {
        String[] rules = {"B1/S/M", "B1/S/V", "B1/S/X"};
        String[] after = {"3o$obo$3o!", "bo$obo$bo!", "2o$obo$b2o!"};
        for (int k = 0; k < rules.length; k++) {
            CellMuseum m = Check.with(rules[k]);
            m.field(0);
            m.put(0, -64, 63, 1);
            Check.due("steps", m.steps(0, 1), 1);
            Check.due("a step of " + rules[k], Check.fieldText(m, 0).equals(after[k]));
            Check.due("where", m.at(0, -64, 62), 1);
        }
        CellMuseum eight = Check.with("B8/S8/M");
        eight.field(0);
        Check.read(eight, 0, 0, 0, "3o$obo$3o!");
        eight.steps(0, 1);
        Check.due("all eight", Check.fieldText(eight, 0).equals("o!"));
        CellMuseum alone = Check.with("B/S0/M");
        alone.field(0);
        Check.read(alone, 0, 0, 0, "o3b2o!");
        alone.steps(0, 1);
        Check.due("none", Check.fieldText(alone, 0).equals("o!"));
    }

    private static void stepsAndJumps() {
        CellMuseum m = life();
        Check.due("steps of an empty field", m.steps(0, 64), 64);
        Check.due("jump of an empty field", m.jump(0, 6), 128);
        Check.read(m, 0, -50, -50, GLIDER);
        Check.due("steps(0, 0)", m.steps(0, 0), 128);
        Check.due("steps(0, 4)", m.steps(0, 4), 132);
        Check.due("least x", m.about(0, 1), -49);
        for (int k = 0; k <= 6; k++) {
            m = life();
            Check.read(m, 0, -40, -40, "2o$2o4$b2o$2o$bo!");
            m.field(0);
            Check.read(m, 1, -40, -40, "2o$2o4$b2o$2o$bo!");
            Check.due("jump " + k, m.jump(0, k), 1 << k);
            for (int n = 0; n < 1 << k; n++) {
                m.steps(1, 1);
            }
            Check.due("jumps are steps", Check.fieldText(m, 0).equals(Check.fieldText(m, 1)));
            Check.due("least x", m.about(0, 1), m.about(1, 1));
            m.remove(1);
        }
        Check.due("steps(0, -1)", m.steps(0, -1), CellMuseum.BAD);
        Check.due("steps(0, 65)", m.steps(0, 65), CellMuseum.BAD);
        Check.due("steps(1, 1)", m.steps(1, 1), CellMuseum.BAD);
        Check.due("jump(0, -1)", m.jump(0, -1), CellMuseum.BAD);
        Check.due("jump(0, 7)", m.jump(0, 7), CellMuseum.BAD);
        Check.due("jump(-1, 1)", m.jump(-1, 1), CellMuseum.BAD);
        Check.due("BAD has changed nothing", m.about(0, 5), 64);
    }

    private static void stepsAtTheRim() {
        int[][] corners = {{-128 + 5, 0, 0}, {127 - 6, 0, 0}, {0, -128 + 5, 0}, {0, 127 - 6, 0}};
        for (int[] corner : corners) {
            CellMuseum m = life();
            Check.read(m, 0, corner[0], corner[1], "2o$2o!");
            Check.due("6 steps near the rim", m.steps(0, 6), CellMuseum.NOT);
            Check.due("64 steps near the rim", m.jump(0, 6), CellMuseum.NOT);
            Check.due("8 steps near the rim", m.jump(0, 3), CellMuseum.NOT);
            Check.due("period near the rim", m.period(0, 6), CellMuseum.NOT);
            Check.due("period near the rim", m.period(0, 5), 1);
            Check.due("NOT has changed nothing", m.about(0, 5), 0);
            Check.due("5 steps near the rim", m.steps(0, 5), 5);
            Check.due("4 steps more", m.jump(0, 2), 9);
            Check.due("0 steps", m.steps(0, 0), 9);
        }
        CellMuseum m = life();
        m.put(0, 127, 127, 1);
        Check.due("no step at the rim", m.steps(0, 1), CellMuseum.NOT);
        Check.due("0 steps at the rim", m.steps(0, 0), 0);
        CellMuseum growing = Check.with("B1/S012345678/M");
        growing.field(0);
        growing.put(0, -64, 63, 1);
        Check.due("64 steps up to two rims", growing.steps(0, 64), 64);
        Check.due("least x", growing.about(0, 1), -128);
        Check.due("greatest y", growing.about(0, 4), 127);
        Check.due("greatest x", growing.about(0, 3), 0);
        Check.due("least y", growing.about(0, 2), -1);
        Check.due("none more", growing.steps(0, 1), CellMuseum.NOT);
    }

    private static void about() {
        CellMuseum m = life();
        int[] ofEmpty = {0, 0, 0, 0, 0, 0, 0, 8};
        for (int what = 0; what < 8; what++) {
            Check.due("about(0, " + what + ") of an empty field", m.about(0, what), ofEmpty[what]);
        }
        Check.read(m, 0, -3, -20, "o4$5bo!");
        int[] ofTwo = {2, -3, -20, 2, -16};
        for (int what = 0; what < 5; what++) {
            Check.due("about(0, " + what + ")", m.about(0, what), ofTwo[what]);
        }
        m.put(0, 2, -16, 0);
        Check.due("the box shrinks", m.about(0, 3), -3);
        Check.due("the box shrinks", m.about(0, 4), -20);
        m.put(0, -128, 127, 1);
        Check.due("the box grows", m.about(0, 1), -128);
        Check.due("the box grows", m.about(0, 4), 127);
        Check.due("about(0, 8)", m.about(0, 8), CellMuseum.BAD);
        Check.due("about(0, -1)", m.about(0, -1), CellMuseum.BAD);
        Check.due("about(1, 0)", m.about(1, 0), CellMuseum.BAD);
        Check.due("about(-1, 0)", m.about(-1, 0), CellMuseum.BAD);
    }

    private static void differentBlocks() {
        CellMuseum m = life();
        m.put(0, -128, -128, 1);
        Check.due("one cell: one more of each side but the whole", m.about(0, 7), 15);
        m.put(0, 126, 126, 1);
        Check.due("the same in the last block of side 2", m.about(0, 7), 21);
        m.put(0, 126, 126, 0);
        Check.due("one cell again", m.about(0, 7), 15);
        m.empty(0);
        for (int y = -128; y < 128; y += 8) {
            Check.read(m, 0, -128, y, "256o$256o$256o$256o$256o$256o$256o$256o!");
        }
        Check.due("all alive", m.about(0, 0), 65536);
        Check.due("all alive: one of each side", m.about(0, 7), 8);
        m.put(0, 0, 0, 0);
        Check.due("all alive but one", m.about(0, 7), 15);
    }

    private static void periods() {
        CellMuseum m = life();
        Check.due("shift before any", m.shift(0), 0);
        Check.due("shift before any", m.shift(1), 0);
        Check.read(m, 0, 0, 0, GLIDER);
        Check.due("three are too few", m.period(0, 3), 0);
        Check.due("shift after 0", m.shift(0), 0);
        Check.due("a glider", m.period(0, 4), 4);
        Check.due("its shift", m.shift(0), 1);
        Check.due("its shift", m.shift(1), 1);
        Check.due("the field stays", m.about(0, 5), 0);
        Check.due("the field stays", Check.fieldText(m, 0).equals(GLIDER));
        m.field(0);
        Check.due("an empty field", m.period(1, 1), 1);
        Check.due("its shift", m.shift(0), 0);
        Check.due("its shift", m.shift(1), 0);
        Check.read(m, 1, -20, 9, "bo2bo$o$o3bo$4o!");
        Check.due("a light ship", m.period(1, 60), 4);
        Check.due("its shift", m.shift(0), -2);
        Check.due("its shift", m.shift(1), 0);
        m.empty(1);
        m.put(1, 0, 0, 1);
        Check.due("what dies", m.period(1, 60), 0);
        Check.due("the shift of the latest above 0", m.shift(0), -2);
        m.empty(1);
        Check.read(m, 1, 62, -65, "3o!");
        Check.due("a blinker", m.period(1, 60), 2);
        Check.due("its shift", m.shift(0), 0);
        Check.read(m, 1, -70, -70, "3o$2bo$bo!");
        Check.due("a blinker and a glider", m.period(1, 50), 0);
        m.empty(1);
        Check.read(m, 1, -60, 60, "3o$o$bo!");
        Check.due("a glider up and left", m.period(1, 60), 4);
        Check.due("its shift", m.shift(0), -1);
        Check.due("its shift", m.shift(1), -1);
        m.remove(1);
        Check.due("the shift stays when the field goes", m.shift(0), -1);
        Check.due("period(0, 0)", m.period(0, 0), CellMuseum.BAD);
        Check.due("period(0, 61)", m.period(0, 61), CellMuseum.BAD);
        Check.due("period(1, 1)", m.period(1, 1), CellMuseum.BAD);
        Check.due("shift(2)", m.shift(2), CellMuseum.BAD);
        Check.due("shift(-1)", m.shift(-1), CellMuseum.BAD);
        Check.due("the shift after BAD", m.shift(1), -1);
    }

    /** Wherever the blinker stands in a wide box, it is seen that the next step is not the same pattern. */
    private static void periodAcrossWords() {
        CellMuseum m = life();
        for (int x = -100; x <= 90; x += 10) {
            m.empty(0);
            Check.read(m, 0, -110, -2, "2o216b2o$2o216b2o4$2o216b2o$2o216b2o!");
            Check.read(m, 0, x, 1, "3o!");
            Check.due("a blinker at " + x, m.period(0, 9), 2);
        }
    }

    private static void congruence() {
        String[] turns = {"3o$o2bo!", "3o$2o2$o!", "3o$2bo$2bo$bo!"};
        CellMuseum m = life();
        m.field(0);
        Check.due("two empty ones", m.congruent(0, 1), 1);
        String[] eight = {"4o$o!", "4o$3bo!", "o$4o!", "3bo$4o!", "2o$o$o$o!", "2o$bo$bo$bo!", "o$o$o$2o!",
            "bo$bo$bo$2o!"};
        for (int a = 0; a < 8; a++) {
            for (int b = 0; b < 8; b++) {
                m.empty(0);
                m.empty(1);
                Check.read(m, 0, -128 + a, 60, eight[a]);
                Check.read(m, 1, 60, 123, eight[b]);
                Check.due(eight[a] + " and " + eight[b], m.congruent(0, 1), 1);
                if (a == 0) {
                    m.put(1, 127, 127, 1);
                    Check.due("one more", m.congruent(0, 1), 0);
                }
            }
            m = a == 3 ? twoFields() : m;
        }
        for (String text : turns) {
            m.empty(0);
            m.empty(1);
            Check.read(m, 0, 0, 0, "4o$o!");
            Check.read(m, 1, 0, 0, text);
            Check.due("4o$o! and " + text, m.congruent(0, 1), 0);
        }
        m.empty(1);
        Check.due("an empty one", m.congruent(0, 1), 0);
        Check.due("itself", m.congruent(0, 0), 1);
        Check.due("congruent(0, 2)", m.congruent(0, 2), CellMuseum.BAD);
        Check.due("congruent(-1, 0)", m.congruent(-1, 0), CellMuseum.BAD);
    }

    private static CellMuseum twoFields() {
        CellMuseum m = life();
        m.field(0);
        return m;
    }

    private static void emptying() {
        CellMuseum m = life();
        Check.read(m, 0, 0, 0, GLIDER);
        m.steps(0, 3);
        Check.due("empty(0)", m.empty(0), 5);
        Check.due("its generation", m.about(0, 5), 0);
        Check.due("its cells", m.about(0, 0), 0);
        Check.due("its box", m.about(0, 3), 0);
        Check.due("empty(0) again", m.empty(0), 0);
        Check.due("empty(1)", m.empty(1), CellMuseum.BAD);
        Check.due("empty(-1)", m.empty(-1), CellMuseum.BAD);
    }
}
