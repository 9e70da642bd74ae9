/** Promises 1 to 5: a new object, feed, end, rule, ruleByte. */
public final class RuleTest {
    public static void main(String[] args) {
        newObject();
        feed();
        end();
        goodRules();
        faultsOfCountRules();
        faultsOfBlockRules();
        tapeIsEmptyThen();
        rulesAreFull();
        ruleBytes();
        Check.end("RuleTest");
    }

    private static void newObject() {
        CellMuseum m = new CellMuseum();
        for (int what = 0; what <= 5; what++) {
            Check.due("count(" + what + ") at first", m.count(what), 0);
        }
        Check.due("found(0) at first", m.found(0), CellMuseum.BAD);
        Check.due("field(0) at first", m.field(0), CellMuseum.BAD);
        Check.due("at(0, 0, 0) at first", m.at(0, 0, 0), CellMuseum.BAD);
        Check.due("cell(0, 0, 0) at first", m.cell(0, 0, 0), CellMuseum.BAD);
        Check.due("rule() at first", m.rule(), -10);
    }

    private static void feed() {
        CellMuseum m = new CellMuseum();
        for (int n = 20; n <= 2000; n += 20) {
            Check.due("feed up to " + n, m.feed(n, -n, 0, Integer.MIN_VALUE, Integer.MAX_VALUE), n);
        }
        Check.due("feed beyond 2000", m.feed(0, 0, 0, 0, 0), CellMuseum.FULL);
        Check.due("count(5) after FULL", m.count(5), 2000);
        Check.due("end(1981)", m.end(1981), 1981);
        Check.due("feed up to 2001", m.feed(0, 0, 0, 0, 0), CellMuseum.FULL);
        Check.due("end(1980)", m.end(1980), 1980);
        Check.due("feed up to 2000", m.feed(0, 0, 0, 0, 0), 2000);
        CellMuseum order = new CellMuseum();
        order.feed(0x42332f53, 0x32332f4d, 0, 0, 0);
        order.end(8);
        Check.due("the highest byte first", order.rule(), 0);
        order.feed(0x42332f53, 0x3233ff4d, 0, 0, 0);
        Check.due("a byte above 127", order.rule(), -16);
    }

    private static void end() {
        CellMuseum m = new CellMuseum();
        Check.due("end(0) of an empty tape", m.end(0), 0);
        Check.due("end(1) of an empty tape", m.end(1), CellMuseum.BAD);
        m.feed(1, 2, 3, 4, 5);
        Check.due("end(-1)", m.end(-1), CellMuseum.BAD);
        Check.due("end(21)", m.end(21), CellMuseum.BAD);
        Check.due("end(min)", m.end(Integer.MIN_VALUE), CellMuseum.BAD);
        Check.due("count(5) after BAD", m.count(5), 20);
        Check.due("end(20)", m.end(20), 20);
        Check.due("end(7)", m.end(7), 7);
        Check.due("end(8)", m.end(8), CellMuseum.BAD);
        Check.due("count(5)", m.count(5), 7);
    }

    private static void goodRules() {
        String[] texts = {"B3/S23/M", "B/S/M", "B/S/V", "B/S/X", "B012345678/S012345678/M", "B01234/S01234/V",
            "B0123456/S0123456/X", "B36/S23/M", "B2/S/M", Check.blockText(2, Check.identity(2)),
            Check.blockText(3, Check.quarterTurn(3)), Check.blockText(4, Check.identity(4))};
        CellMuseum m = new CellMuseum();
        for (int k = 0; k < texts.length; k++) {
            Check.due("rule() of " + texts[k], Check.rule(m, texts[k]), k);
            Check.due("count(0)", m.count(0), k + 1);
        }
    }

    private static void fault(String text, int place) {
        CellMuseum m = new CellMuseum();
        Check.due("rule() of " + text, Check.rule(m, text), -10 - place);
        Check.due("count(0) after a fault", m.count(0), 0);
        Check.due("count(5) after a fault", m.count(5), 0);
    }

    private static void faultsOfCountRules() {
        fault("", 0);
        fault("b3/S23/M", 0);
        fault("B", 1);
        fault("B9/S/M", 1);
        fault("B3", 2);
        fault("B33/S23/M", 2);
        fault("B32/S23/M", 2);
        fault("B3S23/M", 2);
        fault("B3/", 3);
        fault("B3/s23/M", 3);
        fault("B3/S", 4);
        fault("B3/S9/M", 4);
        fault("B3/S22/M", 5);
        fault("B3/S23", 6);
        fault("B3/S23M", 6);
        fault("B3/S23/", 7);
        fault("B3/S23/m", 7);
        fault("B3/S23/H", 7);
        fault("B3/S23/MM", 8);
        fault("B3/S23/M ", 8);
        fault(" B3/S23/M", 0);
        fault("B5/S/V", 5);
        fault("B/S5/V", 5);
        fault("B4/S4/V4", 7);
        fault("B7/S/X", 5);
        fault("B/S7/X", 5);
        fault("B7/S8/X8", 6);
        fault("B8/S8/V", 6);
        fault("B012345678/S012345678/V", 22);
    }

    private static void faultsOfBlockRules() {
        fault("K", 1);
        fault("K1", 1);
        fault("K5", 1);
        fault("K2", 2);
        for (int states = 2; states <= 4; states++) {
            String good = Check.blockText(states, Check.identity(states));
            int length = good.length();
            fault(good + "0", length);
            fault(good.substring(0, length - 1), length - 1);
            fault(good.substring(0, length - 1) + states, length - 1);
            fault(good.substring(0, 30) + "/" + good.substring(31), 30);
            fault(good.substring(0, 2) + states, 2);
        }
    }

    private static void tapeIsEmptyThen() {
        CellMuseum m = new CellMuseum();
        Check.due("rule()", Check.rule(m, "B3/S23/M"), 0);
        Check.due("count(5) after rule()", m.count(5), 0);
        Check.due("rule() of the empty tape", m.rule(), -10);
    }

    private static void rulesAreFull() {
        CellMuseum m = new CellMuseum();
        for (int k = 0; k < 16; k++) {
            Check.due("rule " + k, Check.rule(m, "B3/S23/M"), k);
        }
        Check.due("rule 16", Check.rule(m, "B3/S23/M"), CellMuseum.FULL);
        Check.due("the tape is empty after FULL", m.count(5), 0);
        Check.due("FULL is asked before the fault", Check.rule(m, "none"), CellMuseum.FULL);
        Check.due("the tape is empty after FULL", m.count(5), 0);
        Check.due("count(0)", m.count(0), 16);
    }

    private static void ruleBytes() {
        String[] texts = {"B3/S23/M", Check.blockText(4, Check.quarterTurn(4)), "B/S/X"};
        CellMuseum m = new CellMuseum();
        for (String text : texts) {
            Check.rule(m, text);
        }
        for (int r = 0; r < texts.length; r++) {
            for (int i = 0; i < texts[r].length(); i += 1 + texts[r].length() / 50) {
                Check.due("ruleByte(" + r + ", " + i + ")", m.ruleByte(r, i), texts[r].charAt(i));
            }
            Check.due("its last byte", m.ruleByte(r, texts[r].length() - 1), texts[r].charAt(texts[r].length() - 1));
            Check.due("behind the text", m.ruleByte(r, texts[r].length()), 0);
            Check.due("before the text", m.ruleByte(r, -1), 0);
            Check.due("far behind the text", m.ruleByte(r, Integer.MAX_VALUE), 0);
        }
        Check.due("ruleByte(3, 0)", m.ruleByte(3, 0), CellMuseum.BAD);
        Check.due("ruleByte(-1, 0)", m.ruleByte(-1, 0), CellMuseum.BAD);
        Check.due("ruleByte(99, -1)", m.ruleByte(99, -1), CellMuseum.BAD);
    }
}
