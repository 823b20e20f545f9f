import java.util.List;
import java.util.Random;

/** Of a few fields, every path there is tried one by one: the class must answer the least. */
public final class PathTest {
    private static final int RUNS = 1500;
    private static final String[] CADENCES = {"2", "3", "2 3", "3 2", "2 2", "4", "5", "2 4", "3 3", "2 2 3"};

    public static void main(String[] args) {
        Check check = new Check("PathTest");
        Random random = new Random(7);
        for (int run = 0; run < RUNS && !check.isWrong(); run++) {
            tryOne(check, random);
        }
        check.end();
    }

    private static void tryOne(Check check, Random random) {
        String rules = "cadence " + CADENCES[random.nextInt(CADENCES.length)]
            + "; edit " + random.nextInt(4) + "; still " + random.nextInt(4)
            + "; slack " + random.nextInt(2) + ";";
        StringBuilder film = new StringBuilder("width 1;");
        for (int f = 0; f < 3; f++) {
            film.append("frame ").append(random.nextInt(4)).append(' ').append(random.nextInt(4)).append(';');
        }
        CadenceDesk desk = new CadenceDesk();
        Model model = new Model();
        tell(desk, model, rules, false);
        tell(desk, model, film.toString(), true);
        int parity = random.nextInt(2);
        desk.carry(0, parity);
        model.carry(0, parity);
        while (model.count(2) > 6) {
            int from = random.nextInt(model.count(2));
            desk.cut(from, 1);
            model.cut(from, 1);
        }
        int from = random.nextInt(model.count(2));
        int v = random.nextInt(4);
        desk.set(from, 0, v);
        model.set(from, 0, v);
        compare(check, desk, model.pathByTryingAll(0), rules + film);
    }

    private static void tell(CadenceDesk desk, Model model, String text, boolean isFilm) {
        for (int at = 0; at < text.length(); at += 20) {
            int[] words = new int[5];
            for (int i = 0; i < 20; i++) {
                int b = at + i < text.length() ? text.charAt(at + i) : ' ';
                words[i / 4] = (words[i / 4] << 8) | b;
            }
            desk.feed(words[0], words[1], words[2], words[3], words[4]);
            model.feed(words);
        }
        if (isFilm) {
            desk.film(text.length());
            model.film(text.length());
        } else {
            desk.rules(text.length());
            model.rules(text.length());
        }
    }

    private static void compare(Check check, CadenceDesk desk, Model.Path due, String story) {
        check.due(story + " all(0)", desk.all(0), due.cost());
        check.due(story + " all(1)", desk.all(1), due.edits());
        List<Model.Node> nodes = due.nodes();
        check.due(story + " count(2)", desk.count(2), nodes.size());
        for (int i = 0; i < nodes.size(); i++) {
            Model.Node node = nodes.get(i);
            check.due(story + " path(" + i + ", 0)", desk.path(i, 0), node.place());
            check.due(story + " path(" + i + ", 1)", desk.path(i, 1), node.step());
            check.due(story + " path(" + i + ", 2)", desk.path(i, 2), node.seen());
            check.due(story + " path(" + i + ", 3)", desk.path(i, 3), node.edit());
            check.due(story + " path(" + i + ", 4)", desk.path(i, 4), node.cost());
        }
    }
}
