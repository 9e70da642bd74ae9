/** The boundary cases of promises 1 to 5 and of the texts of rules, sentence by sentence. */
public final class RuleEdgesTest {
    private static final int BAD = CellMuseum.BAD;
    private static final int FULL = CellMuseum.FULL;
    private static final int[] FAR = {Integer.MIN_VALUE, Integer.MIN_VALUE + 1, -1000, 1000, Integer.MAX_VALUE};

    public static void main(String[] args) {
        newObject();
        twentyBytesMore();
        tapeIsFull();
        tapeKeepsItsFirst();
        tapeCannotKeep();
        textsOfRules();
        digitsUpToTheNeighbourhood();
        digitsRise();
        statesOfBlockRules();
        nothingElseStandsInIt();
        faultAtTheEnd();
        faultOfEachByte();
        emptyThenAlways();
        sixteenRules();
        fullIsAskedFirst();
        bytesOfRules();
        Check.end("RuleEdgesTest");
    }

    private static void newObject() {
        Check.sentence("No rules, no fields, no grids; an empty TAPE.");
        CellMuseum other = Check.with("B3/S23/M");
        other.field(0);
        other.still(0, 3, 3);
        CellMuseum m = new CellMuseum();
        for (int what = 0; what <= 5; what++) {
            Check.due("count(" + what + ")", m.count(what), 0);
        }
        Check.due("ruleByte(0, 0)", m.ruleByte(0, 0), BAD);
        Check.due("about(0, 0)", m.about(0, 0), BAD);
        Check.due("amount(0, 0)", m.amount(0, 0), BAD);
        Check.due("remove(1)", m.remove(1), CellMuseum.NOT);
        Check.due("remove(2)", m.remove(2), CellMuseum.NOT);
        Check.due("found(0)", m.found(0), BAD);
        Check.due("shift(0)", m.shift(0), 0);
        Check.due("weight(0, 0, 0)", m.weight(0, 0, 0), 0);
        Check.due("end(1)", m.end(1), BAD);
        Check.due("rule()", m.rule(), -10);
        Check.due("the other object has its rule still", other.count(0), 1);
    }

    private static void twentyBytesMore() {
        Check.sentence("Twenty bytes more of the TAPE, the highest of each number first: how many it has.");
        CellMuseum m = new CellMuseum();
        Check.due("feed", m.feed(0x42303132, 0x33343536, 0x37382f53, 0x30313233, 0x34353637), 20);
        Check.due("feed", m.feed(0x382f4d80, 0xff0000ff, -1, Integer.MIN_VALUE, 0), 40);
        Check.due("end(23)", m.end(23), 23);
        Check.due("rule()", m.rule(), 0);
        String text = "B012345678/S012345678/M";
        for (int i = 0; i < text.length(); i++) {
            Check.due("ruleByte(0, " + i + ")", m.ruleByte(0, i), text.charAt(i));
        }
        Check.due("feed after end(0)", m.feed(0, 0, 0, 0, 0), 20);
        Check.due("end(3)", m.end(3), 3);
        Check.due("feed behind three bytes", m.feed(0, 0, 0, 0, 0), 23);
    }

    private static CellMuseum fullTape() {
        CellMuseum m = new CellMuseum();
        for (int n = 20; n <= 2000; n += 20) {
            Check.due("feed up to " + n, m.feed(n, n, n, n, n), n);
        }
        return m;
    }

    private static void tapeIsFull() {
        Check.sentence("FULL: more than 2000.");
        CellMuseum m = fullTape();
        Check.due("feed behind 2000", m.feed(0, 0, 0, 0, 0), FULL);
        Check.due("count(5)", m.count(5), 2000);
        for (int n = 1999; n > 1980; n--) {
            m.end(n);
            Check.due("feed behind " + n, m.feed(0, 0, 0, 0, 0), FULL);
            Check.due("count(5)", m.count(5), n);
        }
        m.end(1980);
        Check.due("feed behind 1980", m.feed(0, 0, 0, 0, 0), 2000);

        Check.sentence("What is answered so changes nothing, but for the TAPE where it is said.");
        CellMuseum kept = new CellMuseum();
        String text = Check.blockText(4, Check.quarterTurn(4));
        Check.tape(kept, text + " ".repeat(2000 - text.length()));
        Check.due("feed behind a text and blanks", kept.feed(1, 2, 3, 4, 5), FULL);
        Check.due("end", kept.end(text.length()), text.length());
        Check.due("rule() of the text", kept.rule(), 0);
    }

    private static void tapeKeepsItsFirst() {
        Check.sentence("The TAPE keeps its first n bytes: n.");
        CellMuseum m = fullTape();
        Check.due("end(2000)", m.end(2000), 2000);
        Check.due("end(1999)", m.end(1999), 1999);
        Check.due("end(1)", m.end(1), 1);
        Check.due("end(0)", m.end(0), 0);
        Check.due("end(0) of an empty tape", m.end(0), 0);
        Check.tape(m, "B3/S23/MV");
        m.end(8);
        Check.due("rule() of the first bytes", m.rule(), 0);
    }

    private static void tapeCannotKeep() {
        Check.sentence("The TAPE keeps its first n bytes: n. BAD.");
        CellMuseum m = new CellMuseum();
        Check.due("end(1) of an empty tape", m.end(1), BAD);
        m.feed(0, 0, 0, 0, 0);
        Check.due("end(21)", m.end(21), BAD);
        Check.due("end(-1)", m.end(-1), BAD);
        for (int n : FAR) {
            Check.due("end(" + n + ")", m.end(n), BAD);
        }
        Check.due("count(5)", m.count(5), 20);
        m.end(19);
        Check.due("end(20)", m.end(20), BAD);
        CellMuseum whole = fullTape();
        Check.due("end(2001)", whole.end(2001), BAD);
        Check.due("count(5)", whole.count(5), 2000);
    }

    private static void good(String text) {
        CellMuseum m = Check.with(text);
        Check.due("the first byte of " + text, m.ruleByte(0, 0), text.charAt(0));
        Check.due("the bytes of " + text, m.ruleByte(0, text.length()), 0);
    }

    private static void fault(String text, int place) {
        CellMuseum m = new CellMuseum();
        Check.due("rule() of " + text, Check.rule(m, text), -10 - place);
        Check.due("count(0)", m.count(0), 0);
    }

    private static void textsOfRules() {
        Check.sentence("A RULE's TEXT: B and digits, / S and digits, / and one of M (8), V (4), X (6)");
        for (char letter : "MVX".toCharArray()) {
            good("B/S/" + letter);
            good("B0/S0/" + letter);
            good("B4/S/" + letter);
            good("B/S4/" + letter);
            good("B01234/S01234/" + letter);
        }
        for (char letter : "mvxABHKNSW0468/ ".toCharArray()) {
            fault("B3/S23/" + letter, 7);
        }
    }

    private static void digitsUpToTheNeighbourhood() {
        Check.sentence("of digits of B and S above the neighbourhood, which is told behind them:"
                + " the place of that letter");
        String letters = "MVX";
        int[] most = {8, 4, 6};
        for (int k = 0; k < 3; k++) {
            for (int digit = 0; digit <= 8; digit++) {
                String born = "B" + digit + "/S/" + letters.charAt(k);
                String stays = "B/S" + digit + "/" + letters.charAt(k);
                if (digit <= most[k]) {
                    good(born);
                    good(stays);
                } else {
                    fault(born, 5);
                    fault(stays, 5);
                    fault(born + "!", 5);
                }
            }
        }
        fault("B48/S0123/V", 10);
        fault("B012345678/S012345678/X", 22);
        Check.sentence("Its FAULT is the least place of a byte with which no text of a rule goes on");
        fault("B9/S/M", 1);
        fault("B/S9/M", 3);
        fault("B89/S/M", 2);
        fault("B/S10/V", 4);
    }

    private static void digitsRise() {
        Check.sentence("the digits of each rise");
        fault("B00/S/M", 2);
        fault("B88/S/M", 2);
        fault("B10/S/M", 2);
        fault("B232/S/M", 3);
        fault("B/S00/M", 4);
        fault("B/S87/M", 4);
        fault("B012345677/S/M", 9);
        good("B8/S0/M");
        good("B08/S18/M");
        good("B78/S78/M");
    }

    private static void statesOfBlockRules() {
        Check.sentence("Or K, one of 2 3 4 (S), and for each block by its number four digits below S");
        for (int states = 2; states <= 4; states++) {
            String text = Check.blockText(states, Check.identity(states));
            int blocks = states * states * states * states;
            Check.due("the length of a text", text.length(), 2 + 4 * blocks);
            good(text);
            good("K" + states + "0".repeat(4 * blocks));
            good("K" + states + String.valueOf(states - 1).repeat(4 * blocks));
            fault("K" + states + String.valueOf(states).repeat(4 * blocks), 2);
            fault("K" + states + "0".repeat(4 * blocks - 1) + states, 1 + 4 * blocks);
            fault("K" + states + "0".repeat(4 * blocks - 1), 1 + 4 * blocks);
            fault("K" + states + "0".repeat(4 * blocks + 1), 2 + 4 * blocks);
        }
        for (char s : "015678 9/Kk".toCharArray()) {
            fault("K" + s + "0".repeat(64), 1);
        }
    }

    private static void nothingElseStandsInIt() {
        Check.sentence("Nothing else stands in it.");
        String[] texts = {"B3/S23/M", "B/S/V", Check.blockText(2, Check.identity(2))};
        for (String text : texts) {
            fault(" " + text, 0);
            fault("\n" + text, 0);
            fault("\0" + text, 0);
            fault(text + " ", text.length());
            fault(text + "\n", text.length());
            fault(text + "\0", text.length());
            fault(text + "/", text.length());
            fault(text + text, text.length());
        }
        fault("B 3/S23/M", 1);
        fault("B3/S 23/M", 4);
        String longest = Check.blockText(4, Check.identity(4));
        fault(longest + "0".repeat(2000 - longest.length()), longest.length());
    }

    private static void faultAtTheEnd() {
        Check.sentence("its end, at its length, being one");
        String[] texts = {"B3/S23/M", "B/S/X", "B012345678/S012345678/M", Check.blockText(2, Check.quarterTurn(2))};
        for (String text : texts) {
            for (int n = 0; n < text.length(); n++) {
                fault(text.substring(0, n), n);
            }
        }
        for (int states = 3; states <= 4; states++) {
            String text = Check.blockText(states, Check.identity(states));
            for (int n = 2; n < text.length(); n += 61) {
                fault(text.substring(0, n), n);
            }
        }
    }

    /** Whether some text of a rule begins with these bytes and this one behind them, all before it being right. */
    private static boolean goesOn(String before, char next) {
        if (before.isEmpty()) {
            return next == 'B' || next == 'K';
        }
        char last = before.charAt(before.length() - 1);
        if (before.charAt(0) == 'K') {
            int states = before.length() == 1 ? 0 : before.charAt(1) - '0';
            boolean isDigit = next >= '0' && next < '0' + states;
            return before.length() == 1 ? next >= '2' && next <= '4'
                    : isDigit && before.length() < 2 + 4 * states * states * states * states;
        }
        if (last == 'M' || last == 'V' || last == 'X') {
            return false;
        }
        if (last == '/') {
            boolean isFirst = before.indexOf('/') == before.length() - 1;
            return isFirst ? next == 'S' : next == 'M' || next == 'V' && !before.matches(".*[5-8].*")
                    || next == 'X' && !before.matches(".*[78].*");
        }
        boolean rises = last == 'B' || last == 'S' || next > last;
        return next == '/' || next >= '0' && next <= '8' && rises;
    }

    private static void faultOfEachByte() {
        Check.sentence("Its FAULT is the least place of a byte with which no text of a rule goes on,"
                + " given what is before it");
        String[] texts = {"B3/S13/M", "B/S/V", "B04/S4/X", "B8/S08/M", Check.blockText(2, Check.identity(2)),
            "K3" + "2".repeat(20), "K4" + "0123".repeat(5)};
        for (String text : texts) {
            CellMuseum m = new CellMuseum();
            for (int i = 0; i <= text.length(); i += i > 20 ? 15 : 1) {
                String before = text.substring(0, i);
                for (char next = 0; next < 256; next++) {
                    m = next % 50 == 0 ? new CellMuseum() : m;
                    // No text goes on with a blank, so that the place behind a good byte is the fault.
                    int place = goesOn(before, next) ? i + 1 : i;
                    Check.due("rule() of " + before + " and byte " + (int) next, Check.rule(m, before + next + " "),
                            -10 - place);
                }
            }
        }
    }

    private static void emptyThenAlways() {
        Check.sentence("The TAPE is read as the TEXT of a new RULE, and is empty then (always)");
        CellMuseum m = new CellMuseum();
        String[] texts = {"B3/S23/M", "B3/S23/", "none", "K2", "", "B/S/M ", Check.blockText(4, Check.identity(4))};
        for (String text : texts) {
            Check.rule(m, text);
            Check.due("count(5) behind rule() of " + text, m.count(5), 0);
            Check.due("end(1)", m.end(1), BAD);
        }
        Check.due("count(0)", m.count(0), 2);
    }

    private static void sixteenRules() {
        Check.sentence("RULES (16), numbered from 0 as they are made.");
        CellMuseum m = new CellMuseum();
        String[] texts = {"B3/S23/M", Check.blockText(2, Check.identity(2)), "B2/S/V", "B/S0/X"};
        for (int k = 0; k < 16; k++) {
            Check.due("a fault takes no number", Check.rule(m, "B3/S32/M"), -15);
            Check.due("rule " + k, Check.rule(m, texts[k % 4]), k);
            Check.due("count(0)", m.count(0), k + 1);
            Check.due("ruleByte(" + k + ", 1)", m.ruleByte(k, 1), texts[k % 4].charAt(1));
            Check.due("no rule is behind it", m.ruleByte(k + 1, 0), BAD);
        }
        Check.due("the first rule is as it was", m.ruleByte(0, 4), '2');
        Check.due("the last rule has a field", m.field(15), 0);
    }

    private static void fullIsAskedFirst() {
        Check.sentence("FULL (asked first); or -10 less the place of its FAULT.");
        CellMuseum m = new CellMuseum();
        for (int k = 0; k < 16; k++) {
            Check.rule(m, "B3/S23/M");
        }
        String[] texts = {"B3/S23/M", "B3/S23/", "", "none", Check.blockText(2, Check.identity(2))};
        for (String text : texts) {
            Check.due("rule() of " + text, Check.rule(m, text), FULL);
            Check.due("count(5)", m.count(5), 0);
        }
        Check.due("count(0)", m.count(0), 16);
        Check.due("ruleByte(16, 0)", m.ruleByte(16, 0), BAD);
    }

    private static void bytesOfRules() {
        Check.sentence("Byte i of a RULE's TEXT; 0: there is none such; BAD: there is no RULE r.");
        String[] texts = {"B/S/M", "B012345678/S012345678/M", Check.blockText(2, Check.quarterTurn(2)),
            Check.blockText(4, Check.quarterTurn(4))};
        for (String text : texts) {
            CellMuseum m = Check.with(text);
            int length = text.length();
            for (int i = 0; i < length; i += 1 + length / 60) {
                Check.due("ruleByte(0, " + i + ")", m.ruleByte(0, i), text.charAt(i));
            }
            Check.due("the last byte", m.ruleByte(0, length - 1), text.charAt(length - 1));
            Check.due("behind the last byte", m.ruleByte(0, length), 0);
            Check.due("before the first byte", m.ruleByte(0, -1), 0);
            for (int i : FAR) {
                Check.due("ruleByte(0, " + i + ")", m.ruleByte(0, i), i > 0 && i < length ? text.charAt(i) : 0);
                Check.due("ruleByte(" + i + ", 0)", m.ruleByte(i, 0), BAD);
            }
            Check.due("ruleByte(1, 0)", m.ruleByte(1, 0), BAD);
            Check.due("ruleByte(-1, 0)", m.ruleByte(-1, 0), BAD);
            Check.due("BAD comes before 0", m.ruleByte(1, length), BAD);
            Check.due("BAD comes before 0", m.ruleByte(-1, -1), BAD);
        }
    }
}
