/** What the project's tests share: comparing answers, and feeding texts. */
final class Check {
    // One wrong answer may be followed by thousands that come of it.
    private static final int MOST_TOLD = 40;

    private static int wrong = 0;
    private static int asked = 0;
    private static String words = "";

    private Check() {
    }

    /** The words of the document that the answers from here on are about: a wrong answer is told with them. */
    static void sentence(String ofDocument) {
        words = "\"" + ofDocument + "\" ";
    }

    static void due(String call, int got, int want) {
        same(call, "" + got, "" + want);
    }

    static void same(String call, String got, String want) {
        asked++;
        if (got.equals(want)) {
            return;
        }
        wrong++;
        if (wrong <= MOST_TOLD) {
            System.out.println(words + call + " answered " + got + ", due is " + want);
        }
    }

    static void due(String what, boolean holds) {
        due(what, holds ? 1 : 0, 1);
    }

    /** Feeds a text: the last twenty bytes are filled up with spaces, which end() takes off again. */
    static void tape(CellMuseum museum, String text) {
        int had = museum.count(5);
        for (int from = 0; from < text.length(); from += 20) {
            museum.feed(word(text, from), word(text, from + 4), word(text, from + 8), word(text, from + 12),
                    word(text, from + 16));
        }
        due("end() behind a text", museum.end(had + text.length()), had + text.length());
    }

    static int word(String text, int from) {
        int word = 0;
        for (int i = from; i < from + 4; i++) {
            word = word << 8 | (i < text.length() ? text.charAt(i) & 255 : 32);
        }
        return word;
    }

    static int rule(CellMuseum museum, String text) {
        tape(museum, text);
        return museum.rule();
    }

    static int read(CellMuseum museum, int field, int x, int y, String text) {
        tape(museum, text);
        return museum.read(field, x, y);
    }

    /** A museum with one rule. */
    static CellMuseum with(String rule) {
        CellMuseum museum = new CellMuseum();
        due("rule() of " + rule, rule(museum, rule), 0);
        return museum;
    }

    static String fieldText(CellMuseum museum, int field) {
        StringBuilder text = new StringBuilder();
        for (int b = museum.textByte(field, 0); b > 0; b = museum.textByte(field, text.length())) {
            text.append((char) b);
        }
        return text.toString();
    }

    /** The text of a block rule by which block n becomes image[n]. */
    static String blockText(int states, int[] image) {
        StringBuilder text = new StringBuilder("K").append(states);
        for (int block : image) {
            text.append(block / (states * states * states)).append(block / (states * states) % states)
                    .append(block / states % states).append(block % states);
        }
        return text.toString();
    }

    static int[] identity(int states) {
        int[] image = new int[states * states * states * states];
        for (int n = 0; n < image.length; n++) {
            image[n] = n;
        }
        return image;
    }

    /** Each block turned by a quarter: a to b, b to d, d to c, c to a. */
    static int[] quarterTurn(int states) {
        int[] image = identity(states);
        for (int n = 0; n < image.length; n++) {
            int a = n / (states * states * states);
            int b = n / (states * states) % states;
            int c = n / states % states;
            int d = n % states;
            image[n] = ((c * states + a) * states + d) * states + b;
        }
        return image;
    }

    static void end(String test) {
        System.out.println(test + ": " + asked + " answers, " + wrong + " of them wrong");
        if (wrong != 0) {
            System.exit(1);
        }
    }
}
