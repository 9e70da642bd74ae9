/** The boundary cases of promise 9, read, and of run texts, sentence by sentence. */
public final class RunTextEdgesTest {
    private static final int BAD = CellMuseum.BAD;
    private static final int NOT = CellMuseum.NOT;
    private static final int[] FAR = {Integer.MIN_VALUE, Integer.MIN_VALUE + 1, -1000, 1000, Integer.MAX_VALUE};
    // An object is used for at most 512 calls, and a short text takes four of them.
    private static final int TEXTS_OF_ONE = 100;

    private CellMuseum museum = null;
    private int texts = 0;

    public static void main(String[] args) {
        goodTexts();
        counts();
        countsThatAreNone();
        noZeroInFront();
        blanks();
        faultAtTheEnd();
        behindTheEnd();
        new RunTextEdgesTest().allShortTexts("", 5);
        eachByte();
        emptyThenAlways();
        cellsBecomeAsTold();
        cellsThatStay();
        nothingTold();
        howManyAreAlive();
        noSuchFieldOrPlace();
        beyondThePlaces();
        rowsBeyondThePlaces();
        whichIsNamedFirst();
        fullTape();
        Check.end("RunTextEdgesTest");
    }

    private static CellMuseum field() {
        CellMuseum m = Check.with("B3/S23/M");
        Check.due("field(0)", m.field(0), 0);
        return m;
    }

    private static void good(String text, int alive, String want) {
        CellMuseum m = field();
        Check.due("read of " + text, Check.read(m, 0, -128, -128, text), alive);
        Check.due("count(5)", m.count(5), 0);
        Check.same("the cells of " + text, Check.fieldText(m, 0), want);
    }

    private static void fault(String text, int place) {
        CellMuseum m = field();
        m.put(0, 0, 0, 1);
        Check.due("read of " + text, Check.read(m, 0, 0, 0, text), -10 - place);
        Check.due("count(5)", m.count(5), 0);
        Check.due("the cells stay", m.about(0, 0), 1);
    }

    private static void goodTexts() {
        Check.sentence("A RUN TEXT tells rows of cells from above, from the left: b (dead), o (alive), $ (the"
                + " end of the"
                + " row)");
        good("o!", 1, "o!");
        good("bo!", 1, "o!");
        good("obo!", 2, "obo!");
        good("o$bo!", 2, "o$bo!");
        good("oo$oo!", 4, "2o$2o!");
        good("o$$$o!", 2, "o3$o!");
        good("o$!", 1, "o!");
        good("b!", 0, "!");
        good("$!", 0, "!");
        good("!", 0, "!");
        fault("B!", 0);
        fault("O!", 0);
        fault(".!", 0);
    }

    private static void counts() {
        Check.sentence("each with a count 2 .. 999 before it perhaps (no 0 in front; of $: so many rows end)");
        good("2o!", 2, "2o!");
        good("9o!", 9, "9o!");
        good("10o!", 10, "10o!");
        good("99o!", 99, "99o!");
        good("100o!", 100, "100o!");
        good("256o!", 256, "256o!");
        good("o2$o!", 2, "o2$o!");
        good("o255$o!", 2, "o255$o!");
        good("o999$!", 1, "o!");
        good("o998$!", 1, "o!");
        good("2b3o!", 3, "3o!");
        good("o9b2o!", 3, "o9b2o!");
        good("2$2o2$2b2$3o!", 5, "2o4$3o!");
        // Cells of a count up to 999 are no fault, though no field has room for them.
        CellMuseum m = field();
        Check.due("read of 999b!", Check.read(m, 0, -128, 0, "999b!"), NOT);
        Check.due("read of 999o!", Check.read(m, 0, -128, 0, "999o!"), NOT);
        Check.due("read of 257o!", Check.read(m, 0, -128, 0, "257o!"), NOT);
    }

    private static void countsThatAreNone() {
        Check.sentence("the last digit of a count that is none");
        fault("1o!", 0);
        fault("1b!", 0);
        fault("1$!", 0);
        fault("o1o!", 1);
        fault("2o1b3o!", 2);
        fault("1!", 0);
        fault("1", 0);
        fault("o1", 1);
        fault("1 o!", 0);
        fault("1\no!", 0);
        fault("1x!", 0);
        fault("1000o!", 3);
        fault("1000$!", 3);
        fault("9999b!", 3);
        fault("o1000", 4);
        good("11o!", 11, "11o!");
        good("o11b1" + "1o!", 12, "o11b11o!");
        good("o100bo!", 2, "o100bo!");
        Check.sentence("Its FAULT: the least place of a byte with which none goes on");
        fault("10000o!", 3);
        fault("123456789123456789o!", 3);
        fault("99999999999999999999$!", 3);
    }

    private static void noZeroInFront() {
        Check.sentence("no 0 in front");
        fault("0o!", 0);
        fault("0", 0);
        fault("00o!", 0);
        fault("02o!", 0);
        fault("o012b!", 1);
        fault("o$0$!", 2);
        fault("0!", 0);
        good("20o!", 20, "20o!");
        good("200o!", 200, "200o!");
        good("o101bo!", 2, "o101bo!");
    }

    private static void blanks() {
        Check.sentence("Bytes 10 and 32 stand anywhere but within a count and between it and its letter.");
        good(" o!", 1, "o!");
        good("\no!", 1, "o!");
        good("o !", 1, "o!");
        good("o\n!", 1, "o!");
        good("o! ", 1, "o!");
        good("o!\n", 1, "o!");
        good(" \n \n!", 0, "!");
        good("o \n 2b \n o \n $ \n 3$ \n o \n ! \n ", 3, "o2bo4$o!");
        good(" ".repeat(999) + "!" + "\n".repeat(999), 0, "!");
        fault("2 o!", 1);
        fault("2\no!", 1);
        fault("1 2o!", 0);
        fault("12 3o!", 2);
        fault("12\n3o!", 2);
        fault("o12 o!", 3);
        fault("o\to!", 1);
        fault("o\ro!", 1);
        fault("o\u000bo!", 1);
        fault("o\0o!", 1);
        fault("o\u00a0o!", 1);
        fault("o!\r", 2);
    }

    private static void faultAtTheEnd() {
        Check.sentence("its end, at its length, being one");
        fault("", 0);
        fault(" ", 1);
        fault("\n\n", 2);
        fault("o", 1);
        fault("b$", 2);
        fault("o ", 2);
        fault("2", 1);
        fault("o99", 3);
        fault("999", 3);
        fault("10", 2);
        fault("o".repeat(2000), 2000);
    }

    private static void behindTheEnd() {
        Check.sentence("what is behind ! is one, but for 10 and 32");
        fault("!!", 1);
        fault("o!o", 2);
        fault("o!$", 2);
        fault("o!2", 2);
        fault("o! !", 3);
        fault("o! \n \n b", 7);
        fault("!\0", 1);
        good("o! \n \n ", 1, "o!");
        Check.sentence("and ! at the end, once");
        fault("2!", 1);
        fault("o3!", 2);
        fault("12!", 2);
        fault("999!", 3);
    }

    // ---- all short texts

    private static boolean isBlank(char c) {
        return c == ' ' || c == '\n';
    }

    private static boolean isDigit(char c) {
        return c >= '0' && c <= '9';
    }

    private static boolean isCount(String digits) {
        return digits.isEmpty() || digits.length() <= 3 && digits.charAt(0) != '0' && !digits.equals("1");
    }

    /** Whether a text is a run text: its parts are taken off from its front. */
    private static boolean isRunText(String text) {
        String rest = text;
        while (!rest.isEmpty()) {
            int digits = 0;
            while (digits < rest.length() && isDigit(rest.charAt(digits))) {
                digits++;
            }
            char letter = digits < rest.length() ? rest.charAt(digits) : 0;
            boolean goodCount = isCount(rest.substring(0, digits));
            if (digits == 0 && letter == '!') {
                return rest.substring(1).replace("\n", "").replace(" ", "").isEmpty();
            }
            boolean part = goodCount && (letter == 'b' || letter == 'o' || letter == '$');
            if (!part && !(digits == 0 && isBlank(letter))) {
                return false;
            }
            rest = rest.substring(digits + 1);
        }
        return false;
    }

    /** Whether some run text begins so: one of these ends makes one of it then. */
    private static boolean goesOn(String start) {
        return isRunText(start) || isRunText(start + "!") || isRunText(start + "b!") || isRunText(start + "0b!");
    }

    private static int faultOf(String text) {
        int place = 0;
        while (place < text.length() && goesOn(text.substring(0, place + 1))) {
            place++;
        }
        if (place == text.length() && isRunText(text)) {
            return -1;
        }
        boolean behindOne = place > 0 && text.charAt(place - 1) == '1';
        return behindOne && (place == 1 || !isDigit(text.charAt(place - 2))) ? place - 1 : place;
    }

    private void allShortTexts(String start, int most) {
        Check.sentence("Its FAULT: the least place of a byte with which none goes on");
        compare(start);
        for (char next : "bo$! \n0129x".toCharArray()) {
            if (start.length() < most) {
                allShortTexts(start + next, most);
            }
        }
    }

    private void compare(String text) {
        museum = texts % TEXTS_OF_ONE == 0 ? field() : museum;
        texts++;
        int place = faultOf(text);
        int answer = Check.read(museum, 0, -128, -128, text);
        if (place >= 0) {
            Check.due("read of " + text, answer, -10 - place);
        } else {
            Check.due("read of " + text + " has no fault", answer >= 0 || answer == NOT);
        }
    }

    private static void eachByte() {
        Check.sentence("Its FAULT: the least place of a byte with which none goes on");
        String[] starts = {"", "o", "b$", "2", "12", "123", "o ", "o!", "2o$\n"};
        RunTextEdgesTest all = new RunTextEdgesTest();
        for (String start : starts) {
            for (char next = 0; next < 256; next++) {
                all.compare(start + next);
                all.compare(start + next + "o!");
            }
        }
    }

    // ---- what is told

    private static void emptyThenAlways() {
        Check.sentence("The TAPE is read as a RUN TEXT, and is empty then (always)");
        CellMuseum m = field();
        Check.due("no fault", Check.read(m, 0, 0, 0, "o!"), 1);
        Check.due("count(5)", m.count(5), 0);
        Check.due("a fault", Check.read(m, 0, 0, 0, "o"), -11);
        Check.due("count(5)", m.count(5), 0);
        Check.due("no field", Check.read(m, 1, 0, 0, "o!"), BAD);
        Check.due("count(5)", m.count(5), 0);
        Check.due("no place", Check.read(m, 0, 128, 0, "o!"), BAD);
        Check.due("count(5)", m.count(5), 0);
        Check.due("beyond the places", Check.read(m, 0, 127, 127, "2o!"), NOT);
        Check.due("count(5)", m.count(5), 0);
        Check.due("an empty tape", m.read(0, 0, 0), -10);
        Check.due("an empty tape, no field", m.read(1, 0, 0), BAD);
        CellMuseum none = new CellMuseum();
        Check.due("no field at all", Check.read(none, 0, 0, 0, "o!"), BAD);
        Check.due("count(5)", none.count(5), 0);
    }

    private static void cellsBecomeAsTold() {
        Check.sentence("the cells that it tells become as it tells, its first one at (x, y)");
        int[] edges = {-128, -65, -64, -1, 0, 63, 64, 126};
        for (int x : edges) {
            CellMuseum m = field();
            for (int y : edges) {
                m.empty(0);
                m.put(0, x + 1, y, 1);
                m.put(0, x, y + 1, 1);
                Check.due("read at " + x + ", " + y, Check.read(m, 0, x, y, "ob$bo!"), 2);
                Check.due("the first", m.at(0, x, y), 1);
                Check.due("the second", m.at(0, x + 1, y), 0);
                Check.due("the third", m.at(0, x, y + 1), 0);
                Check.due("the fourth", m.at(0, x + 1, y + 1), 1);
                Check.due("about(0, 0)", m.about(0, 0), 2);
            }
            Check.due("the generation stays", m.about(0, 5), 0);
        }
        CellMuseum m = field();
        Check.due("a row begins at x again", Check.read(m, 0, 100, -128, "3bo$o!"), 2);
        Check.due("at(0, 103, -128)", m.at(0, 103, -128), 1);
        Check.due("at(0, 100, -127)", m.at(0, 100, -127), 1);
        m.steps(0, 0);
        m.empty(0);
        Check.read(m, 0, 0, 0, "2o$2o!");
        m.steps(0, 7);
        Check.read(m, 0, 10, 10, "o!");
        Check.due("the generation stays", m.about(0, 5), 7);
    }

    private static void cellsThatStay() {
        Check.sentence("cells of a row behind its last b or o stay");
        CellMuseum m = field();
        Check.read(m, 0, 0, 0, "5o$5o$5o$5o!");
        Check.due("read", Check.read(m, 0, 0, 0, "2b$$b!"), 0);
        Check.same("the cells", Check.fieldText(m, 0), "2b3o$5o$b4o$5o!");
        Check.due("read of !", Check.read(m, 0, 0, 0, "!"), 0);
        Check.due("read of $", Check.read(m, 0, 0, 0, "4$!"), 0);
        Check.same("the cells", Check.fieldText(m, 0), "2b3o$5o$b4o$5o!");
        Check.due("read of a row's middle", Check.read(m, 0, 2, 1, "b!"), 0);
        Check.same("the cells", Check.fieldText(m, 0), "2b3o$2ob2o$b4o$5o!");
        Check.due("read of what kills the rest", Check.read(m, 0, 0, 0, "5b$5b$5b$5b!"), 0);
        Check.due("about(0, 0)", m.about(0, 0), 0);
    }

    private static void nothingTold() {
        Check.sentence("how many of them are alive");
        CellMuseum m = field();
        m.put(0, 127, 127, 1);
        String[] texts = {"!", " !", "$!", "999$!", "999$999$!", "$$$$! "};
        for (String text : texts) {
            Check.due("read of " + text, Check.read(m, 0, 127, 127, text), 0);
        }
        Check.due("read of b", Check.read(m, 0, 0, 0, "b!"), 0);
        Check.due("the cell that was alive", m.at(0, 127, 127), 1);
    }

    private static void howManyAreAlive() {
        Check.sentence("how many of them are alive");
        CellMuseum m = field();
        Check.read(m, 0, 0, 0, "3o!");
        Check.due("those that were alive before count, too", Check.read(m, 0, 0, 0, "4o!"), 4);
        Check.due("those elsewhere do not", Check.read(m, 0, 0, 0, "2bo!"), 1);
        Check.due("about(0, 0)", m.about(0, 0), 2);
        m.empty(0);
        int sum = 0;
        for (int y = -128; y < 128; y += 64) {
            sum += Check.read(m, 0, -128, y, "256o$".repeat(64) + "!");
        }
        Check.due("all places", sum, 65536);
        Check.due("about(0, 0)", m.about(0, 0), 65536);
    }

    private static void noSuchFieldOrPlace() {
        Check.sentence("BAD: there is no such field, or place.");
        CellMuseum m = field();
        int[][] none = {{1, 0, 0}, {-1, 0, 0}, {0, -129, 0}, {0, 128, 0}, {0, 0, -129}, {0, 0, 128}};
        for (int[] n : none) {
            Check.due("read", Check.read(m, n[0], n[1], n[2], "o!"), BAD);
            Check.due("read of nothing", Check.read(m, n[0], n[1], n[2], "!"), BAD);
        }
        for (int far : FAR) {
            Check.due("read(" + far + ", 0, 0)", Check.read(m, far, 0, 0, "o!"), BAD);
            Check.due("read(0, " + far + ", 0)", Check.read(m, 0, far, 0, "o!"), BAD);
            Check.due("read(0, 0, " + far + ")", Check.read(m, 0, 0, far, "o!"), BAD);
        }
        Check.due("about(0, 0)", m.about(0, 0), 0);
        Check.due("the last place", Check.read(m, 0, 127, 127, "o!"), 1);
        Check.due("the first place", Check.read(m, 0, -128, -128, "o!"), 1);
    }

    private static void fits(int x, int y, String text, int alive) {
        CellMuseum m = field();
        Check.due("read at " + x + ", " + y + " of " + text, Check.read(m, 0, x, y, text), alive);
        Check.due("about(0, 0)", m.about(0, 0), alive);
    }

    private static void beyond(int x, int y, String text) {
        CellMuseum m = field();
        m.put(0, x, y, 1);
        Check.due("read at " + x + ", " + y + " of " + text, Check.read(m, 0, x, y, text), NOT);
        Check.due("the first cell stays", m.at(0, x, y), 1);
        Check.due("about(0, 0)", m.about(0, 0), 1);
    }

    private static void beyondThePlaces() {
        Check.sentence("NOT: a cell that it tells would be beyond the field's places.");
        fits(127, 0, "o!", 1);
        beyond(127, 0, "2o!");
        beyond(127, 0, "oo!");
        beyond(127, 0, "bb!");
        beyond(127, 0, "bo!");
        fits(0, 0, "128o!", 128);
        beyond(0, 0, "129o!");
        beyond(0, 0, "129b!");
        beyond(0, 0, "b128b!");
        fits(-128, 0, "255bo!", 1);
        beyond(-128, 0, "256bo!");
        beyond(-128, 0, "o256b!");
        beyond(-128, 0, "b999o!");
        beyond(0, 0, "b$b$129o$o!");
        beyond(126, 5, "b$2o$3b$2o!");
        fits(126, 5, "b$2o$2b$2o!", 4);
        beyond(-128, 0, "999b".repeat(400) + "!");
    }

    private static void rowsBeyondThePlaces() {
        Check.sentence("NOT: a cell that it tells would be beyond the field's places.");
        fits(0, 127, "o!", 1);
        fits(0, 127, "o$!", 1);
        fits(0, 127, "o999$!", 1);
        fits(0, 127, "o" + "999$".repeat(450) + "!", 1);
        beyond(0, 127, "b$o!");
        beyond(0, 127, "b$b!");
        beyond(0, 127, "$b!");
        fits(0, -128, "255$o!", 1);
        beyond(0, -128, "256$o!");
        beyond(0, -128, "256$b!");
        beyond(0, -128, "999$b!");
        beyond(0, -128, "999$".repeat(450) + "b!");
        fits(0, 126, "o$o!", 2);
        beyond(0, 126, "b$b2$b!");
        beyond(0, 126, "b$b$$b!");
    }

    private static void whichIsNamedFirst() {
        Check.sentence("Answers, of several the one named first");
        CellMuseum m = field();
        Check.due("BAD comes before a fault", Check.read(m, 1, 0, 0, "o"), BAD);
        Check.due("BAD comes before a fault", Check.read(m, 0, 128, 0, ""), BAD);
        Check.due("BAD comes before NOT", Check.read(m, 0, 128, 0, "999o!"), BAD);
        Check.due("a fault comes before NOT", Check.read(m, 0, 0, 0, "999o"), -14);
        Check.due("a fault comes before NOT", Check.read(m, 0, 0, 127, "o$o$x!"), -14);
        Check.due("about(0, 0)", m.about(0, 0), 0);
    }

    private static void fullTape() {
        Check.sentence("The TAPE is a row of at most 2000 bytes.");
        good("o$".repeat(127) + "o" + " ".repeat(2000 - 256) + "!", 128, "o$".repeat(127) + "o!");
        good("2b".repeat(100) + "o" + "$".repeat(255) + "2o" + "\n".repeat(2000 - 459) + "!", 3,
                "200bo255$2o!");
        fault("o".repeat(127) + "$".repeat(1873), 2000);
        fault("!" + " ".repeat(1998) + "o", 1999);
    }
}
