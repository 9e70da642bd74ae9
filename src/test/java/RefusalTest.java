import java.util.ArrayList;
import java.util.List;

/** What is answered BAD, NOT, FULL or with a fault changes nothing but the tape where the document says so. */
public final class RefusalTest {
    private static final int BAD = CellMuseum.BAD;
    private static final int NOT = CellMuseum.NOT;
    private static final int FULL = CellMuseum.FULL;
    private static final String TAPE = "B36/S23/M";

    private interface Call {
        int on(CellMuseum museum);
    }

    private record Refused(String name, int answer, Call call) {
    }

    private final List<Refused> calls = new ArrayList<>();

    public static void main(String[] args) {
        Check.sentence("What is answered so changes nothing, but for the TAPE where it is said.");
        RefusalTest ordinary = new RefusalTest();
        ordinary.ofRules();
        ordinary.ofFields();
        ordinary.ofSearches();
        ordinary.ofGrids();
        ordinary.changeNothing(false);
        RefusalTest crowded = new RefusalTest();
        crowded.ofCrowd();
        crowded.changeNothing(true);
        refusedReadings();
        refusedRules();
        Check.end("RefusalTest");
    }

    private void refused(String name, int answer, Call call) {
        calls.add(new Refused(name, answer, call));
    }

    // ---- museums, and all that can be seen of them

    /** Rules: 0 life, 1 with 0 in BORN, 2 a reversible one of blocks, 3 one of blocks that is not. */
    private static CellMuseum furnished() {
        CellMuseum m = Check.with("B3/S23/M");
        int[] image = Check.quarterTurn(2);
        image[0] = 15;
        Check.rule(m, "B0/S8/M");
        Check.rule(m, Check.blockText(2, Check.quarterTurn(2)));
        Check.rule(m, Check.blockText(2, image));
        m.field(0);
        Check.read(m, 0, -126, -126, "3o$o$bo!");
        m.field(0);
        Check.read(m, 1, 10, 20, "3o$o$bo!");
        m.steps(1, 3);
        m.period(1, 9);
        for (int r = 2; r <= 3; r++) {
            m.grid(r, 4, 2);
            m.fill(r - 2, 5, 50);
            m.go(r - 2, 3);
        }
        m.oscillators(0, 3, 3, 2);
        Check.tape(m, TAPE);
        return m;
    }

    /** The same with as many rules, fields, grids and searches as there may be. */
    private static CellMuseum crowded() {
        CellMuseum m = furnished();
        m.end(0);
        for (int k = 4; k < 16; k++) {
            Check.rule(m, "B3/S23/M");
        }
        for (int k = 2; k < 8; k++) {
            m.field(0);
            m.grid(2, 2, 2);
        }
        for (int k = 1; k < 30; k++) {
            m.oscillators(0, 3, 3, 2);
        }
        Check.tape(m, TAPE);
        return m;
    }

    /** The same with so many bytes of the tape that no twenty more have room. */
    private static CellMuseum crowdedToTheBrim() {
        CellMuseum m = crowded();
        for (int n = TAPE.length() + 20; n <= 2000; n += 20) {
            m.feed(0, 0, 0, 0, 0);
        }
        return m;
    }

    private static String look(CellMuseum m) {
        StringBuilder seen = new StringBuilder();
        for (int what = 0; what <= 5; what++) {
            seen.append(m.count(what)).append(what < 5 ? "," : ";");
        }
        seen.append(m.found(0)).append(',').append(m.found(1)).append(',').append(m.shift(0)).append(',');
        seen.append(m.shift(1)).append(';');
        for (int f = 0; f < m.count(1); f++) {
            seen.append(m.about(f, 0)).append(',').append(m.about(f, 5)).append(',').append(m.about(f, 6));
            seen.append(',').append(m.about(f, 1)).append(',').append(m.about(f, 2)).append(',');
            seen.append(Check.fieldText(m, f)).append(';');
        }
        for (int g = 0; g < m.count(2); g++) {
            for (int k = 0; k < (g < 2 ? 8 : 4); k++) {
                seen.append(m.cell(g, k / 2, k % 2));
            }
            // A step more tells the generation.
            seen.append(',').append(m.go(g, 1)).append(';');
        }
        // The bytes of the tape are those of a rule, if there is room for one.
        m.end(TAPE.length());
        return seen.append(m.rule()).append(',').append(m.ruleByte(4, 2)).toString();
    }

    private void changeNothing(boolean isCrowded) {
        String untouched = look(isCrowded ? crowdedToTheBrim() : furnished());
        for (Refused refused : calls) {
            CellMuseum m = isCrowded ? crowdedToTheBrim() : furnished();
            Check.due(refused.name, refused.call.on(m), refused.answer);
            Check.same("what is seen after " + refused.name, look(m), untouched);
        }
    }

    // ---- the calls

    private void ofRules() {
        refused("end(-1)", BAD, m -> m.end(-1));
        refused("end(10)", BAD, m -> m.end(TAPE.length() + 1));
        refused("ruleByte(4, 0)", BAD, m -> m.ruleByte(4, 0));
        refused("count(6)", BAD, m -> m.count(6));
        refused("remove(0)", BAD, m -> m.remove(0));
        refused("remove(3)", BAD, m -> m.remove(3));
    }

    private void ofFields() {
        refused("field(-1)", BAD, m -> m.field(-1));
        refused("field(4)", BAD, m -> m.field(4));
        refused("field(1)", NOT, m -> m.field(1));
        refused("field(2)", NOT, m -> m.field(2));
        refused("put at no field", BAD, m -> m.put(2, 0, 0, 1));
        refused("put at no place", BAD, m -> m.put(1, 128, 0, 1));
        refused("put of 2", BAD, m -> m.put(1, 12, 22, 2));
        refused("put of -1", BAD, m -> m.put(1, 12, 22, -1));
        refused("at", BAD, m -> m.at(1, 0, 128));
        refused("textByte(2, 0)", BAD, m -> m.textByte(2, 0));
        refused("steps(0, 3)", NOT, m -> m.steps(0, 3));
        refused("steps(0, 64)", NOT, m -> m.steps(0, 64));
        refused("steps(1, 65)", BAD, m -> m.steps(1, 65));
        refused("steps(1, -1)", BAD, m -> m.steps(1, -1));
        refused("steps(2, 1)", BAD, m -> m.steps(2, 1));
        refused("jump(0, 2)", NOT, m -> m.jump(0, 2));
        refused("jump(1, 7)", BAD, m -> m.jump(1, 7));
        refused("jump(1, -1)", BAD, m -> m.jump(1, -1));
        refused("jump(2, 0)", BAD, m -> m.jump(2, 0));
        refused("about(2, 0)", BAD, m -> m.about(2, 0));
        refused("about(0, 8)", BAD, m -> m.about(0, 8));
        refused("period(0, 3)", NOT, m -> m.period(0, 3));
        refused("period(0, 2), which finds none", 0, m -> m.period(0, 2));
        refused("period(1, 61)", BAD, m -> m.period(1, 61));
        refused("period(1, 0)", BAD, m -> m.period(1, 0));
        refused("period(2, 4)", BAD, m -> m.period(2, 4));
        refused("shift(2)", BAD, m -> m.shift(2));
        refused("congruent(0, 2)", BAD, m -> m.congruent(0, 2));
        refused("empty(2)", BAD, m -> m.empty(2));
        refused("empty(-1)", BAD, m -> m.empty(-1));
    }

    private void ofSearches() {
        refused("still of no box", BAD, m -> m.still(0, 3, 6));
        refused("still of no rule", BAD, m -> m.still(4, 3, 3));
        refused("still of a rule of blocks", NOT, m -> m.still(2, 3, 3));
        refused("still of 0 in BORN", NOT, m -> m.still(1, 3, 3));
        refused("oscillators of no box", BAD, m -> m.oscillators(0, 3, 5, 2));
        refused("oscillators of no period", BAD, m -> m.oscillators(0, 3, 3, 7));
        refused("oscillators of 0 in BORN", NOT, m -> m.oscillators(1, 3, 3, 2));
        refused("ancestors of no box", BAD, m -> m.ancestors(0, 2, 3, 0));
        refused("ancestors of no pattern", BAD, m -> m.ancestors(0, 2, 2, 16));
        refused("ancestors of a rule of blocks", NOT, m -> m.ancestors(3, 2, 2, 0));
        refused("garden of no box", BAD, m -> m.garden(0, 0, 1));
        refused("garden of 0 in BORN", NOT, m -> m.garden(1, 1, 1));
        refused("found(2)", BAD, m -> m.found(2));
        refused("found(-1)", BAD, m -> m.found(-1));
    }

    private void ofGrids() {
        refused("grid of no rule", BAD, m -> m.grid(4, 2, 2));
        refused("grid of an odd side", BAD, m -> m.grid(2, 2, 3));
        refused("grid of a great side", BAD, m -> m.grid(2, 18, 2));
        refused("grid of a count rule", NOT, m -> m.grid(0, 2, 2));
        refused("set at no grid", BAD, m -> m.set(2, 0, 0, 1));
        refused("set at no row", BAD, m -> m.set(0, 4, 0, 1));
        refused("set at no column", BAD, m -> m.set(0, 0, 2, 1));
        refused("set to no state", BAD, m -> m.set(0, 0, 0, 2));
        refused("cell", BAD, m -> m.cell(0, 4, 0));
        refused("fill with no share", BAD, m -> m.fill(0, 9, 101));
        refused("fill of no grid", BAD, m -> m.fill(2, 9, 50));
        refused("go(0, 0)", BAD, m -> m.go(0, 0));
        refused("go(0, 1001)", BAD, m -> m.go(0, 1001));
        refused("go(0, -1001)", BAD, m -> m.go(0, -1001));
        refused("go(0, -4)", NOT, m -> m.go(0, -4));
        refused("go(1, -1)", NOT, m -> m.go(1, -1));
        refused("go(2, 1)", BAD, m -> m.go(2, 1));
        refused("amount(0, 2)", BAD, m -> m.amount(0, 2));
        refused("reversible(0)", NOT, m -> m.reversible(0));
        refused("reversible(4)", BAD, m -> m.reversible(4));
        refused("clash(2, 0)", NOT, m -> m.clash(2, 0));
        refused("clash(3, 2)", BAD, m -> m.clash(3, 2));
        refused("weights(1)", NOT, m -> m.weights(1));
        refused("weights(4)", BAD, m -> m.weights(4));
        refused("weight(4, 0, 0)", 0, m -> m.weight(4, 0, 0));
    }

    private void ofCrowd() {
        refused("feed", FULL, m -> m.feed(0x42332f53, 0, 0, 0, 0));
        refused("field", FULL, m -> m.field(0));
        refused("field of 0 in BORN", NOT, m -> m.field(1));
        refused("field of no rule", BAD, m -> m.field(16));
        refused("grid", FULL, m -> m.grid(2, 2, 2));
        refused("grid of a count rule", NOT, m -> m.grid(0, 2, 2));
        refused("grid of an odd side", BAD, m -> m.grid(2, 2, 1));
        refused("still", FULL, m -> m.still(0, 2, 2));
        refused("still of 0 in BORN", NOT, m -> m.still(1, 2, 2));
        refused("still of no box", BAD, m -> m.still(0, 17, 1));
        refused("oscillators", FULL, m -> m.oscillators(0, 2, 2, 2));
        refused("ancestors", FULL, m -> m.ancestors(0, 2, 2, 0));
        refused("garden", FULL, m -> m.garden(0, 2, 2));
    }

    // ---- those that empty the tape

    private static String lookWithoutTape(CellMuseum m) {
        Check.due("the tape is empty", m.count(5), 0);
        Check.tape(m, TAPE);
        return look(m);
    }

    private static void refusedReadings() {
        Check.sentence("The TAPE is read as a RUN TEXT, and is empty then (always)");
        String untouched = look(furnished());
        List<Refused> readings = new ArrayList<>();
        readings.add(new Refused("a fault", -13, m -> Check.read(m, 1, 10, 20, "3bo")));
        readings.add(new Refused("a fault behind good cells", -12, m -> Check.read(m, 1, 10, 20, "3bx!")));
        readings.add(new Refused("no field", BAD, m -> Check.read(m, 2, 10, 20, "3b!")));
        readings.add(new Refused("no place", BAD, m -> Check.read(m, 1, 128, 20, "3b!")));
        readings.add(new Refused("beyond the right", NOT, m -> Check.read(m, 1, 10, 20, "3b$3b$3b$119o!")));
        readings.add(new Refused("beyond the lowest row", NOT, m -> Check.read(m, 1, 10, 20, "3b$3b$3b200$o!")));
        for (Refused reading : readings) {
            CellMuseum m = furnished();
            m.end(0);
            Check.due(reading.name, reading.call.on(m), reading.answer);
            Check.same("what is seen after " + reading.name, lookWithoutTape(m), untouched);
        }
    }

    private static void refusedRules() {
        Check.sentence("The TAPE is read as the TEXT of a new RULE, and is empty then (always)");
        String[] texts = {"", "B", "B3/S23/", "B8/S/V", "K2000", "B3/S23/M ", "none"};
        String untouched = look(furnished());
        for (String text : texts) {
            CellMuseum m = furnished();
            m.end(0);
            Check.due("rule() of " + text + " has a fault", Check.rule(m, text) <= -10);
            Check.same("what is seen after it", lookWithoutTape(m), untouched);
        }
        CellMuseum whole = crowded();
        String before = look(crowded());
        Check.due("rule() of a crowded museum", whole.rule(), FULL);
        Check.same("what is seen after it", lookWithoutTape(whole), before);
    }
}
