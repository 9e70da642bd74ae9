import java.lang.reflect.InvocationTargetException;
import java.lang.reflect.Method;
import java.lang.reflect.Modifier;
import java.util.Arrays;
import java.util.Comparator;
import java.util.Random;

/** Runs of calls, told by fixed seeds, of which each answer is compared with that of PlainMuseum. */
public final class ModelTest {
    private static final int CALLS = 500;

    private final Random dice;
    private final CellMuseum museum = new CellMuseum();
    private final PlainMuseum plain = new PlainMuseum();
    private final String name;
    private int calls = 0;

    private ModelTest(String kind, int seed) {
        dice = new Random(seed);
        name = kind + " run " + seed + ": ";
    }

    public static void main(String[] args) throws ReflectiveOperationException {
        int times = args.length > 0 ? Integer.parseInt(args[0]) : 1;
        for (int seed = 0; seed < 60 * times; seed++) {
            new ModelTest("field", seed).fieldRun();
        }
        for (int seed = 0; seed < 120 * times; seed++) {
            new ModelTest("grid", seed).gridRun();
        }
        for (int seed = 0; seed < 8 * times; seed++) {
            new ModelTest("search", seed).searchRun();
        }
        for (int seed = 0; seed < 40 * times; seed++) {
            new ModelTest("text", seed).textRun();
        }
        for (int seed = 0; seed < 8 * times; seed++) {
            new ModelTest("dense", seed).denseRun();
        }
        for (int seed = 0; seed < 20 * times; seed++) {
            new ModelTest("mixed", seed).mixedRun();
        }
        Check.end("ModelTest");
    }

    private void due(String call, int got, int want) {
        calls++;
        Check.due(name + "call " + calls + ", " + call, got, want);
    }

    private int below(int n) {
        return dice.nextInt(n);
    }

    /** Mostly a number from 0 up to n, now and then one that is out of the way. */
    private int near(int n) {
        int[] odd = {-1, -2, n + 1, n + 2, Integer.MAX_VALUE, Integer.MIN_VALUE};
        return below(25) == 0 ? odd[below(odd.length)] : below(n + 1);
    }

    // ---- all calls

    /** Any call with any numbers, most of them at the edges of what some call takes. */
    private void mixedRun() throws ReflectiveOperationException {
        int[] edges = {Integer.MIN_VALUE, Integer.MIN_VALUE + 1, -1001, -1000, -129, -128, -2, -1, 0, 0, 0, 0, 1, 1, 1,
            1, 2, 2, 2, 3, 3, 4, 5, 6, 7, 8, 15, 16, 17, 60, 64, 65, 100, 127, 128, 1000, 1001, 65535, 65536,
            Integer.MAX_VALUE - 1, Integer.MAX_VALUE};
        Method[] methods = CellMuseum.class.getDeclaredMethods();
        methods = Arrays.stream(methods).filter(m -> Modifier.isPublic(m.getModifiers()))
                .sorted(Comparator.comparing(Method::getName)).toArray(Method[]::new);
        for (int k = 0; k < 3; k++) {
            newRule(k == 1 ? blockText() : countText());
        }
        while (calls < CALLS) {
            if (below(12) == 0) {
                tape(below(2) == 0 ? runText() : countText());
            }
            Method method = methods[below(methods.length)];
            Integer[] numbers = new Integer[method.getParameterCount()];
            for (int k = 0; k < numbers.length; k++) {
                numbers[k] = below(3) == 0 ? edges[below(edges.length)] : below(4);
            }
            Method same = PlainMuseum.class.getDeclaredMethod(method.getName(), method.getParameterTypes());
            due(method.getName() + Arrays.toString(numbers), answer(method, museum, numbers),
                    answer(same, plain, numbers));
        }
    }

    private static int answer(Method method, Object object, Integer[] numbers) throws IllegalAccessException {
        try {
            return (Integer) method.invoke(object, (Object[]) numbers);
        } catch (InvocationTargetException thrown) {
            System.out.println(method.getName() + Arrays.toString(numbers) + " threw " + thrown.getCause());
            return -999;
        }
    }

    // ---- texts

    private void tape(String text) {
        int had = plain.count(5);
        for (int from = 0; from < text.length(); from += 20) {
            int[] w = new int[5];
            for (int k = 0; k < 5; k++) {
                w[k] = Check.word(text, from + 4 * k);
            }
            due("feed", museum.feed(w[0], w[1], w[2], w[3], w[4]), plain.feed(w[0], w[1], w[2], w[3], w[4]));
        }
        int n = had + text.length();
        due("end(" + n + ")", museum.end(n), plain.end(n));
    }

    private String digits(int most) {
        StringBuilder digits = new StringBuilder();
        for (int d = 0; d <= most; d++) {
            digits.append(below(3) == 0 ? "" + d : "");
        }
        return digits.toString();
    }

    private String countText() {
        String[] famous = {"B3/S23/M", "B36/S23/M", "B2/S/M", "B3678/S34678/M", "B1357/S1357/M", "B2/S34/X",
            "B1/S/V", "B3/S012345678/M", "B13/S13/V", "B2/S2/X", "B34/S34/M"};
        if (below(2) == 0) {
            return famous[below(famous.length)];
        }
        int kind = below(3);
        int most = new int[] {8, 4, 6}[kind];
        String born = digits(most);
        born = below(6) != 0 && born.startsWith("0") ? born.substring(1) : born;
        return "B" + born + "/S" + digits(most) + "/" + "MVX".charAt(kind);
    }

    private static int weightOf(int block, int states, int[] weights) {
        int sum = 0;
        for (int k = 0; k < 4; k++) {
            sum += weights[block % states];
            block /= states;
        }
        return sum;
    }

    /** Blocks change places with blocks of the same weight, or become one of them. */
    private String blockText() {
        int states = 2 + below(3);
        int[] image = below(3) == 0 ? Check.quarterTurn(states) : Check.identity(states);
        int[] weights = new int[states];
        for (int v = 0; v < states; v++) {
            weights[v] = below(6);
        }
        boolean places = below(3) != 0;
        for (int k = 0; k < below(60); k++) {
            int a = below(image.length);
            int b = below(image.length);
            if (weightOf(image[a], states, weights) == weightOf(image[b], states, weights)) {
                int old = image[a];
                image[a] = image[b];
                image[b] = places ? old : image[b];
            }
        }
        return Check.blockText(states, image);
    }

    private String runText() {
        StringBuilder text = new StringBuilder();
        int runs = below(30);
        for (int k = 0; k < runs; k++) {
            int times = below(3) == 0 ? 1 : 2 + below(below(8) == 0 ? 130 : 6);
            text.append(times == 1 ? "" : "" + times).append("bbooo$".charAt(below(6)));
            text.append(below(8) == 0 ? " \n".substring(below(2)) : "");
        }
        return text.append('!').append(below(5) == 0 ? " \n" : "").toString();
    }

    /** Some byte is changed, put in or left out, or the end cut off. */
    private String harmed(String text, String letters) {
        int place = below(text.length() + 1);
        String head = text.substring(0, place);
        String tail = text.substring(Math.min(text.length(), place + below(2)));
        int way = below(4);
        if (way == 0) {
            return head;
        }
        return way == 1 ? head + tail : head + letters.charAt(below(letters.length())) + tail;
    }

    private void newRule(String text) {
        tape(text);
        due("rule() of " + text, museum.rule(), plain.rule());
    }

    private void textRun() {
        newRule("B3/S23/M");
        due("field(0)", museum.field(0), plain.field(0));
        for (int k = 0; k < 25; k++) {
            String text = below(2) == 0 ? countText() : blockText();
            text = below(3) == 0 ? text.substring(0, Math.min(text.length(), 70)) : text;
            newRule(below(5) == 0 ? text : harmed(text, "BKS/MVX0123456789 \n\u00c3"));
            int r = near(plain.count(0));
            int i = near(70);
            due("ruleByte(" + r + ", " + i + ")", museum.ruleByte(r, i), plain.ruleByte(r, i));
        }
        while (calls < CALLS - 20) {
            String text = runText();
            text = below(4) == 0 ? text : harmed(text, "bo$!0123456789 \nx\u00c3");
            text = below(3) == 0 ? harmed(text, "1b0o ") : text;
            tape(text);
            int x = below(40) - 20;
            due("read of " + text, museum.read(0, x, -x), plain.read(0, x, -x));
        }
        wholeText(0);
    }

    // ---- fields

    private void wholeText(int f) {
        int due = 1;
        for (int i = 0; due > 0 && calls < CALLS; i++) {
            due = plain.textByte(f, i);
            due("textByte(" + f + ", " + i + ")", museum.textByte(f, i), due);
        }
    }

    /** From some cells in the middle a pattern grows over nearly all places. */
    private void denseRun() {
        String[] growing = {"B2/S/M", "B1357/S02468/M", "B2/S1/X", "B1/S/V", "B13/S012/M", "B36/S125/M"};
        newRule(growing[below(growing.length)]);
        due("field(0)", museum.field(0), plain.field(0));
        for (int y = -3; y <= 3; y++) {
            for (int x = -3; x <= 3; x++) {
                int v = below(2);
                due("put", museum.put(0, x, y, v), plain.put(0, x, y, v));
            }
        }
        for (int n = 64; n > 0 && calls < CALLS; n = n == 1 ? 0 : n - 1 - below(20) * n / 64) {
            int generation = plain.steps(0, n);
            due("steps(0, " + n + ")", museum.steps(0, n), generation);
            if (generation >= 0) {
                aboutAll(0);
            }
        }
        for (int i = 0; i < 60000; i += 1 + i / 2) {
            due("textByte(0, " + i + ")", museum.textByte(0, i), plain.textByte(0, i));
        }
        due("congruent(0, 0)", museum.congruent(0, 0), plain.congruent(0, 0));
    }

    private int coordinate() {
        int[] edges = {-128, -127, -65, -64, -63, -1, 0, 63, 64, 65, 126, 127, 128, -129};
        return below(4) == 0 ? edges[below(edges.length)] : below(60) - 30;
    }

    private void fieldRun() {
        for (int k = 0; k < 4; k++) {
            newRule(k == 3 && below(3) == 0 ? blockText() : countText());
        }
        while (calls < CALLS) {
            fieldCall();
        }
    }

    private void fieldCall() {
        int f = plain.count(1) == 0 ? near(1) : near(plain.count(1) - 1);
        int x = coordinate();
        int y = coordinate();
        int n = near(8);
        switch (below(16)) {
            case 0, 1 -> due("field(" + n % 4 + ")", museum.field(n % 4), plain.field(n % 4));
            case 2, 3 -> due("put", museum.put(f, x, y, 1), plain.put(f, x, y, 1));
            case 4 -> {
                int v = near(1);
                due("put(" + v + ")", museum.put(f, x, y, v), plain.put(f, x, y, v));
            }
            case 5 -> due("at", museum.at(f, x, y), plain.at(f, x, y));
            case 6, 7 -> {
                tape(runText());
                due("read(" + f + ", " + x + ", " + y + ")", museum.read(f, x, y), plain.read(f, x, y));
            }
            case 8 -> due("textByte(" + f + ", " + n + ")", museum.textByte(f, n), plain.textByte(f, n));
            case 9 -> due("steps(" + f + ", " + n + ")", museum.steps(f, n), plain.steps(f, n));
            case 10 -> due("jump(" + f + ", " + n % 5 + ")", museum.jump(f, n % 5), plain.jump(f, n % 5));
            case 11, 12 -> aboutAll(f);
            case 13 -> {
                int most = near(30);
                due("period(" + f + ", " + most + ")", museum.period(f, most), plain.period(f, most));
                due("shift(" + n % 3 + ")", museum.shift(n % 3), plain.shift(n % 3));
                due("shift(1)", museum.shift(1), plain.shift(1));
            }
            case 14 -> due("congruent(" + f + ", " + n + ")", museum.congruent(f, n), plain.congruent(f, n));
            default -> rareFieldCall(f);
        }
    }

    private void aboutAll(int f) {
        for (int what = -1; what <= 8; what++) {
            due("about(" + f + ", " + what + ")", museum.about(f, what), plain.about(f, what));
        }
    }

    private void rareFieldCall(int f) {
        switch (below(6)) {
            case 0 -> due("empty(" + f + ")", museum.empty(f), plain.empty(f));
            case 1 -> due("remove(1)", museum.remove(1), plain.remove(1));
            case 2 -> {
                int what = near(5);
                due("count(" + what + ")", museum.count(what), plain.count(what));
            }
            case 3 -> due("steps(" + f + ", 64)", museum.steps(f, 64), plain.steps(f, 64));
            case 4 -> turnedCopy(f);
            default -> due("remove(" + f + ")", museum.remove(f), plain.remove(f));
        }
    }

    /** A new field with the cells of another, turned, and perhaps one of them changed. */
    private void turnedCopy(int f) {
        int made = plain.field(0);
        due("field(0)", museum.field(0), made);
        if (made < 0 || plain.about(f, 0) < 1 || plain.about(f, 0) > 40) {
            return;
        }
        int turn = below(8);
        for (int y = plain.about(f, 2); y <= plain.about(f, 4); y++) {
            for (int x = plain.about(f, 1); x <= plain.about(f, 3); x++) {
                if (plain.at(f, x, y) == 1) {
                    int u = (turn & 4) == 0 ? x : y;
                    int v = (turn & 4) == 0 ? y : x;
                    u = (turn & 1) == 0 ? u : -1 - u;
                    v = (turn & 2) == 0 ? v : -1 - v;
                    due("put", museum.put(made, u, v, 1), plain.put(made, u, v, 1));
                }
            }
        }
        due("congruent", museum.congruent(f, made), plain.congruent(f, made));
        int x = plain.about(made, 1);
        int y = plain.about(made, 2);
        due("put", museum.put(made, x, y, 0), plain.put(made, x, y, 0));
        due("put", museum.put(made, x, y + 1, 1), plain.put(made, x, y + 1, 1));
        due("congruent", museum.congruent(made, f), plain.congruent(made, f));
    }

    // ---- grids

    private void gridRun() {
        for (int k = 0; k < 4; k++) {
            newRule(k == 3 ? countText() : blockText());
        }
        for (int r = -1; r <= 4; r++) {
            due("reversible(" + r + ")", museum.reversible(r), plain.reversible(r));
            due("weights(" + r + ")", museum.weights(r), plain.weights(r));
            for (int k = -1; k <= 4; k++) {
                for (int v = -1; v <= 4 && calls < CALLS - 100; v++) {
                    due("weight(" + r + ", " + k + ", " + v + ")", museum.weight(r, k, v), plain.weight(r, k, v));
                }
            }
            for (int which = -1; which <= 2; which++) {
                due("clash(" + r + ", " + which + ")", museum.clash(r, which), plain.clash(r, which));
            }
        }
        while (calls < CALLS) {
            gridCall();
        }
    }

    private void gridCall() {
        int g = plain.count(2) == 0 ? near(1) : near(plain.count(2) - 1);
        int i = near(7);
        int j = near(7);
        int v = near(3);
        switch (below(9)) {
            case 0 -> due("grid", museum.grid(v, 2 * i, 2 * j), plain.grid(v, 2 * i, 2 * j));
            case 1 -> due("grid", museum.grid(v, 2 + i, 4 * j), plain.grid(v, 2 + i, 4 * j));
            case 2 -> due("set", museum.set(g, i, j, v), plain.set(g, i, j, v));
            case 3 -> due("cell", museum.cell(g, i, j), plain.cell(g, i, j));
            case 4 -> {
                int seed = dice.nextInt();
                int share = near(100);
                due("fill", museum.fill(g, seed, share), plain.fill(g, seed, share));
            }
            case 5, 6 -> {
                int n = below(10) == 0 ? 1000 : i - 3;
                due("go(" + g + ", " + n + ")", museum.go(g, n), plain.go(g, n));
                wholeGrid(g);
            }
            case 7 -> due("amount", museum.amount(g, v), plain.amount(g, v));
            default -> {
                int kind = below(5) == 0 ? 2 : near(1);
                due("remove(" + kind + ")", museum.remove(kind), plain.remove(kind));
            }
        }
    }

    private void wholeGrid(int g) {
        for (int i = 0; plain.cell(g, i, 0) >= 0; i++) {
            for (int j = 0; plain.cell(g, i, j) >= 0 && calls < CALLS; j++) {
                due("cell of the whole grid", museum.cell(g, i, j), plain.cell(g, i, j));
            }
        }
    }

    // ---- searches

    private void searchRun() {
        for (int k = 0; k < 4; k++) {
            newRule(k == 3 ? blockText() : countText());
        }
        for (int k = 0; k < 14; k++) {
            searchCall();
            int many = plain.count(4);
            due("count(4)", museum.count(4), many);
            due("count(3)", museum.count(3), plain.count(3));
            for (int i = -1; i <= many; i += 1 + many / 60) {
                Check.due(name + "found(" + i + ")", museum.found(i), plain.found(i));
            }
            due("found(last)", museum.found(many - 1), plain.found(many - 1));
        }
    }

    private void searchCall() {
        int r = below(8) == 0 ? near(4) : below(3);
        int[][] boxes = {{1, 16}, {16, 1}, {2, 8}, {8, 2}, {3, 5}, {5, 3}, {1, 12}, {12, 1}, {2, 6}, {6, 2}, {3, 4},
            {4, 3}, {1, 13}, {17, 1}};
        int[] box = boxes[below(boxes.length)];
        boolean longBox = below(3) == 0;
        int rows = longBox ? box[0] : 1 + near(3);
        int columns = longBox ? box[1] : 1 + near(3);
        switch (below(4)) {
            case 0 -> due("still", museum.still(r, rows, columns), plain.still(r, rows, columns));
            case 1 -> {
                int p = 2 + near(3);
                due("oscillators", museum.oscillators(r, rows, columns, p), plain.oscillators(r, rows, columns, p));
            }
            case 2 -> {
                int low = 1 + near(1);
                int wide = low == 1 ? 1 + near(2) : 1 + near(1);
                int pattern = near((1 << Math.min(4, Math.max(0, low * wide))) - 1);
                due("ancestors", museum.ancestors(r, low, wide, pattern), plain.ancestors(r, low, wide, pattern));
            }
            default -> {
                int low = 1 + near(1);
                int wide = low == 1 ? 1 + near(2) : 1 + near(1);
                due("garden", museum.garden(r, wide, low), plain.garden(r, wide, low));
            }
        }
    }
}
