import java.io.IOException;
import java.nio.file.Files;
import java.nio.file.Path;

/** The examples of README.md: they answer what it says, and its lines are those that are run here. */
public final class ReadmeTest {
    private static final StringBuilder SHOWN = new StringBuilder();

    public static void main(String[] args) throws IOException {
        CellMuseum museum = new CellMuseum();
        rulesAndFields(museum);
        runTexts(museum);
        searches(museum);
        blockRules(museum);
        refusals(museum);
        String readme = Files.readString(Path.of("README.md"));
        for (String line : SHOWN.toString().split("\n")) {
            Check.due("README.md has the line " + line, readme.contains("\n" + line));
        }
        Check.end("ReadmeTest");
    }

    /** An example's line, with the answer that its comment begins with. */
    private static void line(String call, int got, int said) {
        SHOWN.append(call).append('\n');
        Check.due(call, got, said);
        Check.due(call + " says " + said, call.matches(".*// " + said + "\\b.*"));
    }

    private static void rulesAndFields(CellMuseum museum) {
        Check.tape(museum, "B3/S23/M");
        int life = museum.rule();
        line("int life = museum.rule();               // 0, the first rule", life, 0);
        int field = museum.field(life);
        line("int field = museum.field(life);         // 0, the first field", field, 0);
        museum.put(field, -1, 0, 1);
        museum.put(field, 0, 0, 1);
        museum.put(field, 1, 0, 1);
        line("museum.steps(field, 1);                 // 1, its generation then", museum.steps(field, 1), 1);
        line("museum.at(field, 0, -1);                // 1, alive: the row has become a column",
                museum.at(field, 0, -1), 1);
        line("museum.period(field, 10);               // 2: a blinker", museum.period(field, 10), 2);
    }

    private static void runTexts(CellMuseum museum) {
        line("museum.empty(0);                        // 3 cells were alive", museum.empty(0), 3);
        Check.tape(museum, "bo$2bo$3o!");
        line("museum.read(0, 0, 0);                   // 5 cells are alive: a glider", museum.read(0, 0, 0), 5);
        line("museum.jump(0, 6);                      // 64, the generation after as many steps",
                museum.jump(0, 6), 64);
        line("museum.about(0, 1);                     // 16, the least x", museum.about(0, 1), 16);
        line("museum.period(0, 10);                   // 4", museum.period(0, 10), 4);
        line("museum.shift(0);                        // 1, how far it moves to the right", museum.shift(0), 1);
        line("museum.textByte(0, 0);                  // 98, the b of its text", museum.textByte(0, 0), 98);
    }

    private static void searches(CellMuseum museum) {
        line("museum.still(0, 3, 3);                  // 12 still lives in a box of 3 by 3", museum.still(0, 3, 3), 12);
        line("museum.found(1);                        // 27, the second of them: a block", museum.found(1), 27);
        line("museum.oscillators(0, 3, 3, 2);         // 2", museum.oscillators(0, 3, 3, 2), 2);
    }

    private static void blockRules(CellMuseum museum) {
        Check.tape(museum, "K20000001010001010000100111001101101000110110011100101011111011111");
        int turn = museum.rule();
        line("int turn = museum.rule();               // 1, the second rule", turn, 1);
        line("museum.reversible(turn);                // 1, it is", museum.reversible(turn), 1);
        line("museum.weights(turn);                   // 2: as many 0 and as many 1 as before",
                museum.weights(turn), 2);
        int grid = museum.grid(turn, 8, 8);
        line("int grid = museum.grid(turn, 8, 8);     // 0, the first grid", grid, 0);
        line("museum.fill(grid, 12345, 50);           // 33 cells are not 0", museum.fill(grid, 12345, 50), 33);
        line("museum.go(grid, 1000);                  // 1000, its generation", museum.go(grid, 1000), 1000);
        line("museum.go(grid, -1000);                 // 0, all as it was", museum.go(grid, -1000), 0);
    }

    private static void refusals(CellMuseum museum) {
        line("museum.field(7);                        // -1, BAD: there is no such rule", museum.field(7), -1);
        line("museum.field(turn);                     // -2, NOT: it is a rule of blocks", museum.field(1), -2);
        Check.tape(museum, "B3/S32/M");
        line("museum.rule();                          // -15: the text has its fault at place 5", museum.rule(), -15);
    }
}
