import java.util.ArrayList;
import java.util.List;

/**
 * Every call with every edge value in every place, in desks that are new, busy and full: the
 * answers are the model's, and what is refused leaves all as it was.
 */
public final class SweepTest {
    private static final int NONE = CadenceDesk.NONE;

    private static final int[] EDGES = {Integer.MIN_VALUE, Integer.MIN_VALUE + 1, -91, -3, -2, -1, 0, 1, 2, 3, 4, 5, 6, 7,
        8, 9, 10, 11, 12, 17, 18, 19, 20, 21, 45, 46, 88, 89, 90, 91, 99, 100, 127, 128, 900, 901,
        Integer.MAX_VALUE - 1, Integer.MAX_VALUE};
    private static final int[] FEW = {Integer.MIN_VALUE, -3, -2, -1, 0, 1, 2, 5, 6, 17, 18, 89, 90, Integer.MAX_VALUE};

    private final Check check = new Check("SweepTest");
    private CadenceDesk desk;
    private Model model;

    public static void main(String[] args) {
        SweepTest test = new SweepTest();
        for (int state = 0; state < 5; state++) {
            test.begin(state);
            test.ask();
            test.askThrees();
            test.begin(state);
            test.act();
            test.tell(state);
        }
        test.check.end();
    }

    private void due(String call, int got, int want) {
        check.due(call, got, want);
    }

    private void begin(int state) {
        desk = new CadenceDesk();
        model = new Model();
        if (state >= 1) {
            tellBoth(state < 3 ? Desks.FILM : Desks.longFilm(), true);
        }
        if (state >= 2) {
            tellBoth(state < 3 ? Desks.BUSY_RULES : "cadence 2;cadence 5;cadence 5 5 5 5 5 4;cadence 3 2;", false);
            force(1);
            carry(0, 0);
        }
        if (state == 2 || state == 4) {
            due("cut", desk.cut(3, 1), model.cut(3, 1));
            due("doubled", desk.doubled(7, 1), model.doubled(7, 1));
            due("noise", desk.noise(77, 1), model.noise(77, 1));
        }
    }

    private void tellBoth(String text, boolean isFilm) {
        for (int at = 0; at < text.length(); at += 20) {
            int[] words = new int[5];
            for (int i = 0; i < 20; i++) {
                int b = at + i < text.length() ? text.charAt(at + i) : ' ';
                words[i / 4] = (words[i / 4] << 8) | b;
            }
            due("feed", desk.feed(words[0], words[1], words[2], words[3], words[4]), model.feed(words));
        }
        if (isFilm) {
            due("film", desk.film(text.length()), model.film(text.length()));
        } else {
            due("rules", desk.rules(text.length()), model.rules(text.length()));
        }
    }

    private void force(int c) {
        due("force(" + c + ")", desk.force(c), model.force(c));
    }

    private int carry(int place, int parity) {
        int got = desk.carry(place, parity);
        due("carry(" + place + ", " + parity + ")", got, model.carry(place, parity));
        return got;
    }

    // ---- what asks only

    private void ask() {
        List<Integer> before = Snapshot.brief(desk);
        due("restored()", desk.restored(), model.restored());
        for (int a : EDGES) {
            due("all(" + a + ")", desk.all(a), model.all(a));
            due("edit(" + a + ")", desk.edit(a), model.edit(a));
            due("known(" + a + ")", desk.known(a), model.known(a));
            due("costs(" + a + ")", desk.costs(a), model.costs(a));
            due("guess(" + a + ")", desk.guess(a), model.guess(a));
            due("isClean(" + a + ")", desk.isClean(a) ? 1 : 0, model.isClean(a) ? 1 : 0);
            due("count(" + a + ")", desk.count(a), model.count(a));
            for (int b : EDGES) {
                String pair = "(" + a + ", " + b + ")";
                due("cadence" + pair, desk.cadence(a, b), model.cadence(a, b));
                due("field" + pair, Check.fieldOf(desk, a, b), model.field(a, b));
                due("apart" + pair, desk.apart(a, b), model.apart(a, b));
                due("path" + pair, desk.path(a, b), model.path(a, b));
                due("group" + pair, desk.group(a, b), model.group(a, b));
            }
        }
        check.due("all stays", Snapshot.brief(desk), before);
    }

    private void askThrees() {
        List<Integer> before = Snapshot.brief(desk);
        for (int a : FEW) {
            for (int b : FEW) {
                for (int c : FEW) {
                    String three = "(" + a + ", " + b + ", " + c + ")";
                    due("frame" + three, desk.frame(a, b, c), model.frame(a, b, c));
                    due("found" + three, desk.found(a, b, c), model.found(a, b, c));
                    due("anew" + three, desk.anew(a, b, c), model.anew(a, b, c));
                }
            }
        }
        check.due("all stays", Snapshot.brief(desk), before);
    }

    // ---- acts, each undone again

    private void act() {
        List<Integer> before = fields();
        for (int a : EDGES) {
            for (int b : EDGES) {
                String pair = "(" + a + ", " + b + ")";
                settle("carry" + pair, carry(a, b), before);
                int cut = desk.cut(a, b);
                due("cut" + pair, cut, model.cut(a, b));
                settle("cut" + pair, cut, before);
                int doubled = desk.doubled(a, b);
                due("doubled" + pair, doubled, model.doubled(a, b));
                settle("doubled" + pair, doubled, before);
                int noise = desk.noise(a, b);
                due("noise" + pair, noise, model.noise(a, b));
                settle("noise" + pair, noise, before);
            }
        }
        for (int a : FEW) {
            for (int b : FEW) {
                for (int v : EDGES) {
                    int set = desk.set(a, b, v);
                    due("set", set, model.set(a, b, v));
                    settle("set(" + a + ", " + b + ", " + v + ")", set, before);
                }
            }
        }
    }

    /** Behind an act the fields are the model's; it is undone, and they are as before. */
    private void settle(String call, int answer, List<Integer> before) {
        due(call + ": acts", desk.count(10), model.count(10));
        if (answer != NONE) {
            for (int i = 0; i <= model.count(2); i++) {
                due(call + ": field(" + i + ", 0)", Check.fieldOf(desk, i, 0), model.field(i, 0));
            }
            due(call + ": undo()", desk.undo(), model.undo());
        }
        check.due(call + ": fields", fields(), before);
    }

    private List<Integer> fields() {
        List<Integer> samples = new ArrayList<>();
        for (int i = 0; i < desk.count(2); i++) {
            for (int k = NONE; k < desk.count(0); k++) {
                samples.add(Check.fieldOf(desk, i, k));
            }
        }
        return samples;
    }

    // ---- what tells

    private void tell(int state) {
        for (int n : EDGES) {
            begin(state);
            due("feed", desk.feed(0x77696474, 0x6820313B, 0x6672616D, 0x65203120, 0x323B2020),
                model.feed(0x77696474, 0x6820313B, 0x6672616D, 0x65203120, 0x323B2020));
            due("rules(" + n + ")", desk.rules(n), model.rules(n));
            due("film(" + n + ")", desk.film(n), model.film(n));
            due("force(" + n + ")", desk.force(n), model.force(n));
            for (int what = 0; what < 12; what++) {
                due("count(" + what + ") behind " + n, desk.count(what), model.count(what));
            }
            due("all(0)", desk.all(0), model.all(0));
        }
    }
}
