import java.util.Random;

/** Long runs of drawn calls (always the same ones), each answer held against the model's. */
public final class ModelTest {
    private static final int RUNS = 200;
    private static final int CALLS = 512;

    private final Check check;
    private final Random random;
    private final CadenceDesk desk = new CadenceDesk();
    private final Model model = new Model();
    private int calls = 0;
    private boolean longCadences = false;

    private ModelTest(Check check, int seed) {
        this.check = check;
        this.random = new Random(seed);
    }

    public static void main(String[] args) {
        Check check = new Check("ModelTest");
        for (int seed = 0; seed < RUNS && !check.isWrong(); seed++) {
            new ModelTest(check, seed).run();
        }
        check.end();
    }

    private void run() {
        boolean small = random.nextInt(3) > 0;
        longCadences = !small && random.nextInt(6) == 0;
        tellRules();
        tellFilm(small);
        while (calls < CALLS - 60 && !check.isWrong()) {
            int what = random.nextInt(100);
            if (what < 3) {
                tellFilm(small);
            } else if (what < 7) {
                tellRules();
            } else if (what < 40) {
                act();
            } else {
                ask();
            }
        }
    }

    private void due(String call, long got, long want) {
        calls++;
        check.due(call, got, want);
    }

    private int below(int n) {
        return random.nextInt(n);
    }

    /** Mostly a number below n, at times one just outside or far away. */
    private int about(int n) {
        int draw = below(40);
        if (draw == 0) {
            return -1 - below(3);
        }
        if (draw == 1) {
            return n + below(2);
        }
        if (draw == 2) {
            return below(2) == 0 ? Integer.MAX_VALUE : Integer.MIN_VALUE;
        }
        return below(Math.max(1, n));
    }

    // ---- texts

    private String sample(int range) {
        return String.valueOf(below(range));
    }

    private String filmText(boolean small) {
        int width = 1 + below(small ? 2 : 6);
        int range = below(3) == 0 ? 100 : 2 + below(12);
        int frames = small ? 1 + below(5) : 1 + below(20);
        StringBuilder text = new StringBuilder("width ").append(width).append(';');
        for (int f = 0; f < frames; f++) {
            text.append(below(2) == 0 ? "frame" : "\nframe ");
            for (int k = 0; k < 2 * width; k++) {
                text.append(k == 0 ? "" : " ").append(sample(range));
            }
            text.append(below(2) == 0 ? ";" : " ; ");
        }
        return text.toString();
    }

    private String rulesText() {
        StringBuilder text = new StringBuilder();
        int lines = 1 + below(7);
        for (int line = 0; line < lines; line++) {
            int kind = line == 0 ? 0 : below(8);
            switch (kind) {
                case 3 -> text.append("slack ").append(below(2) == 0 ? below(4) : below(1000));
                case 4 -> text.append("edit ").append(below(2) == 0 ? below(4) : below(100));
                case 5 -> text.append("still ").append(below(2) == 0 ? below(4) : below(100));
                case 6 -> text.append("mate ").append(below(2) == 0 ? below(20) : below(1000));
                case 7 -> text.append("measure ").append(new String[] {"sum", "most", "many"}[below(3)]);
                default -> {
                    text.append("cadence");
                    int numbers = longCadences ? 6 : 1 + below(below(3) == 0 ? 6 : 3);
                    for (int i = 0; i < numbers; i++) {
                        text.append(' ').append(longCadences ? 4 + below(2) : 2 + below(below(2) == 0 ? 4 : 2));
                    }
                }
            }
            text.append(below(2) == 0 ? ";" : " ;\n");
        }
        return text.toString();
    }

    private static final String[] PIECES = {"", " ", ";", "x", "0", "7", " 9 ", "12345", "00001", "0100", "999",
        "1000", "9999", "frame", "width", "cadence ", "slack", "edit", "sum", "measure ", "\n", "\t", "A", "\u00e9",
        "-", "cadence 2;", "slack 5;", " 2 2 2 2 2 2 2"};

    private String spoiled(String text) {
        int from = below(text.length() + 1);
        int to = Math.min(text.length(), from + below(4));
        return text.substring(0, from) + PIECES[below(PIECES.length)] + text.substring(to);
    }

    private void feedText(String text) {
        for (int at = 0; at < text.length() && !check.isWrong(); at += 20) {
            int[] words = new int[5];
            for (int i = 0; i < 20; i++) {
                int b = at + i < text.length() ? text.charAt(at + i) & 255 : below(256);
                words[i / 4] = (words[i / 4] << 8) | b;
            }
            due("feed", desk.feed(words[0], words[1], words[2], words[3], words[4]), model.feed(words));
        }
    }

    private int lengthAsked(String text) {
        int draw = below(30);
        if (draw == 0) {
            return about(text.length());
        }
        return Math.min(text.length(), 900);
    }

    private void tellFilm(boolean small) {
        String text = filmText(small);
        if (below(4) == 0) {
            text = spoiled(text);
        }
        feedText(text);
        int n = lengthAsked(text);
        due("film(" + n + ") of " + text, desk.film(n), model.film(n));
    }

    private void tellRules() {
        String text = rulesText();
        if (below(4) == 0) {
            text = spoiled(text);
        }
        feedText(text);
        int n = lengthAsked(text);
        due("rules(" + n + ") of " + text, desk.rules(n), model.rules(n));
    }

    // ---- acts

    private void act() {
        int fields = model.count(2);
        int draw = fields == 0 ? below(6) : below(26);
        int a = about(fields);
        if (draw < 4) {
            int place = about(model.cadence(model.count(4), -1));
            int parity = about(2);
            due("carry(" + place + ", " + parity + ")", desk.carry(place, parity), model.carry(place, parity));
        } else if (draw < 9) {
            int n = below(12) == 0 ? about(fields) : 1 + below(3);
            due("cut(" + a + ", " + n + ")", desk.cut(a, n), model.cut(a, n));
        } else if (draw < 14) {
            int n = below(12) == 0 ? about(fields) : 1 + below(3);
            due("doubled(" + a + ", " + n + ")", desk.doubled(a, n), model.doubled(a, n));
        } else if (draw < 16) {
            int seed = random.nextInt();
            int m = below(6) == 0 ? about(11) : 1 + below(2);
            due("noise(" + seed + ", " + m + ")", desk.noise(seed, m), model.noise(seed, m));
        } else if (draw < 20) {
            int k = about(model.count(0));
            int v = about(100);
            due("set(" + a + ", " + k + ", " + v + ")", desk.set(a, k, v), model.set(a, k, v));
        } else if (draw < 24) {
            int c = about(model.count(3));
            due("force(" + c + ")", desk.force(c), model.force(c));
        } else {
            due("undo()", desk.undo(), model.undo());
        }
    }

    // ---- questions

    private void ask() {
        int fields = model.count(2);
        int width = model.count(0);
        int cadence = about(model.count(3));
        int k = below(6) == 0 ? -1 - below(2) : about(width);
        int a = about(fields);
        int b = about(fields);
        int frame = about(model.all(6));
        int parity = about(2);
        switch (below(16)) {
            case 0 -> due("frame", desk.frame(a, parity, k), model.frame(a, parity, k));
            case 1 -> due("cadence", desk.cadence(cadence, b - 1), model.cadence(cadence, b - 1));
            case 2 -> due("field(" + a + ", " + k + ")", Check.fieldOf(desk, a, k), model.field(a, k));
            case 3 -> due("apart(" + a + ", " + b + ")", desk.apart(a, b), model.apart(a, b));
            case 4 -> askCount();
            case 5 -> askAll();
            case 6 -> askEdit();
            case 7 -> askGroup();
            case 8 -> due("found", desk.found(frame, parity, k), model.found(frame, parity, k));
            case 9 -> due("known(" + frame + ")", desk.known(frame), model.known(frame));
            case 10 -> due("restored()", desk.restored(), model.restored());
            case 11 -> due("costs(" + cadence + ")", desk.costs(cadence), model.costs(cadence));
            case 12 -> askGuess();
            case 13 -> askAnew(cadence, k);
            case 14 -> due("isClean(" + cadence + ")", desk.isClean(cadence) ? 1 : 0, model.isClean(cadence) ? 1 : 0);
            default -> askPath(a);
        }
    }

    private void askCount() {
        int what = about(12);
        due("count(" + what + ")", desk.count(what), model.count(what));
    }

    private void askAll() {
        int what = about(7);
        due("all(" + what + ")", desk.all(what), model.all(what));
    }

    private void askEdit() {
        int i = about(model.all(1));
        due("edit(" + i + ")", desk.edit(i), model.edit(i));
    }

    private void askGroup() {
        int group = about(model.all(2));
        int what = about(4);
        due("group(" + group + ", " + what + ")", desk.group(group, what), model.group(group, what));
    }

    private void askGuess() {
        int what = about(3);
        due("guess(" + what + ")", desk.guess(what), model.guess(what));
    }

    private void askAnew(int cadence, int k) {
        int i = about(Math.max(0, model.anew(cadence, 0, -1)));
        due("anew(" + cadence + ", " + i + ", " + k + ")", desk.anew(cadence, i, k), model.anew(cadence, i, k));
    }

    private void askPath(int field) {
        int what = about(8);
        due("path(" + field + ", " + what + ")", desk.path(field, what), model.path(field, what));
    }
}
