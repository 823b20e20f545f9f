import java.util.ArrayDeque;
import java.util.ArrayList;
import java.util.Arrays;
import java.util.Deque;
import java.util.HashMap;
import java.util.List;
import java.util.Map;

/**
 * The document once more, written as plainly as can be and with the whole Java library,
 * to hold the class against: paths are found forwards and compared as whole sequences.
 */
final class Model {
    static final int NONE = -1;

    private static final class Fault extends RuntimeException {
        private static final long serialVersionUID = 1L;
        final int code;

        Fault(int place, int kind) {
            code = 8 * place + kind;
        }
    }

    /** A token: type 'w' word, 'n' number, ';', '!' none, '$' the end. */
    private record Token(char type, int place, String text) { }

    /** A field or one half of a frame's rows. */
    record Field(int parity, List<Integer> samples) { }

    record Frame(List<Integer> top, List<Integer> bottom) {
        List<Integer> row(int parity) {
            return parity == 0 ? top : bottom;
        }
    }

    /** What a path gives one field. */
    record Node(int place, int step, int seen, int edit, int cost) { }

    record Path(int cost, int edits, List<Node> nodes) {
        boolean isAheadOf(Path other) {
            if (cost != other.cost) {
                return cost < other.cost;
            }
            if (edits != other.edits) {
                return edits < other.edits;
            }
            for (int i = 0; i < nodes.size(); i++) {
                int order = compare(nodes.get(i), other.nodes.get(i));
                if (order != 0) {
                    return order < 0;
                }
            }
            return false;
        }

        private static int compare(Node a, Node b) {
            int[] x = {a.place, a.step, a.seen, a.edit};
            int[] y = {b.place, b.step, b.seen, b.edit};
            return Arrays.compare(x, y);
        }

        Path with(Node node) {
            List<Node> more = new ArrayList<>(nodes);
            more.add(node);
            return new Path(cost + node.cost, edits + node.edit, more);
        }
    }

    private final StringBuilder tape = new StringBuilder();
    private int width = 0;
    private List<Frame> film = new ArrayList<>();
    private List<List<Integer>> cadences = List.of(List.of(2, 3));
    private Map<String, Integer> values = firstValues();
    private int inForce = 0;
    private List<Field> fields = new ArrayList<>();
    private final Deque<List<Field>> undoable = new ArrayDeque<>();
    /** By cadence; only a spared repetition. */
    private final Map<Integer, Path> paths = new HashMap<>();

    private static Map<String, Integer> firstValues() {
        Map<String, Integer> first = new HashMap<>();
        first.put("slack", 0);
        first.put("edit", 40);
        first.put("still", 10);
        first.put("mate", 0);
        first.put("measure", 0);
        return first;
    }

    int feed(int... words) {
        if (tape.length() + 20 > 900) {
            return NONE;
        }
        for (int word : words) {
            for (int shift = 24; shift >= 0; shift -= 8) {
                tape.append((char) ((word >> shift) & 255));
            }
        }
        return tape.length();
    }

    // ---- texts

    private List<Token> tokens = List.of();
    private int at = 0;

    private void tokenize(String text) {
        tokens = new ArrayList<>();
        at = 0;
        int i = 0;
        while (i < text.length()) {
            String rest = text.substring(i);
            char c = rest.charAt(0);
            if (c == ' ' || c == '\n') {
                i++;
                continue;
            }
            String run = String.valueOf(c);
            char type = c == ';' ? ';' : '!';
            if (rest.matches("(?s)[a-z].*")) {
                run = rest.replaceAll("(?s)^([a-z]+).*$", "$1");
                type = 'w';
            } else if (rest.matches("(?s)[0-9].*")) {
                run = rest.replaceAll("(?s)^([0-9]+).*$", "$1");
                type = run.length() <= 4 ? 'n' : '!';
            }
            tokens.add(new Token(type, i, run));
            i += run.length();
        }
        tokens.add(new Token('$', text.length(), ""));
    }

    private Token now() {
        return tokens.get(at);
    }

    private boolean isWord(String word) {
        return now().type == 'w' && now().text.equals(word);
    }

    private int number(int least, int most) {
        if (now().type != 'n') {
            throw new Fault(now().place, 1);
        }
        int value = Integer.parseInt(now().text);
        if (value < least || value > most) {
            throw new Fault(now().place, 2);
        }
        at++;
        return value;
    }

    private void semicolon() {
        if (now().type != ';') {
            throw new Fault(now().place, 1);
        }
        at++;
    }

    private List<Integer> row(int n) {
        List<Integer> row = new ArrayList<>();
        while (row.size() < n) {
            row.add(number(0, 99));
        }
        return row;
    }

    int film(int n) {
        if (n < 0 || n > tape.length()) {
            return NONE;
        }
        tokenize(tape.substring(0, n));
        tape.setLength(0);
        try {
            if (!isWord("width")) {
                throw new Fault(now().place, 1);
            }
            at++;
            int newWidth = number(1, 6);
            semicolon();
            List<Frame> frames = new ArrayList<>();
            while (frames.isEmpty() || now().type != '$') {
                if (!isWord("frame")) {
                    throw new Fault(now().place, 1);
                }
                if (frames.size() == 20) {
                    throw new Fault(now().place, 4);
                }
                at++;
                List<Integer> top = row(newWidth);
                frames.add(new Frame(top, row(newWidth)));
                semicolon();
            }
            width = newWidth;
            film = frames;
        } catch (Fault fault) {
            return -2 - fault.code;
        }
        fields = new ArrayList<>();
        undoable.clear();
        paths.clear();
        return film.size();
    }

    int rules(int n) {
        if (n < 0 || n > tape.length()) {
            return NONE;
        }
        tokenize(tape.substring(0, n));
        tape.setLength(0);
        List<List<Integer>> newCadences = new ArrayList<>();
        Map<String, Integer> toldValues = new HashMap<>();
        try {
            while (now().type != '$') {
                readLine(newCadences, toldValues);
                semicolon();
            }
            if (newCadences.isEmpty()) {
                throw new Fault(now().place, 1);
            }
        } catch (Fault fault) {
            return -2 - fault.code;
        }
        cadences = newCadences;
        values = firstValues();
        values.putAll(toldValues);
        inForce = 0;
        undoable.clear();
        paths.clear();
        return cadences.size();
    }

    private void readLine(List<List<Integer>> newCadences, Map<String, Integer> toldValues) {
        Token word = now();
        if (isWord("cadence")) {
            if (newCadences.size() == 4) {
                throw new Fault(word.place, 4);
            }
            at++;
            List<Integer> numbers = new ArrayList<>();
            numbers.add(number(2, 5));
            while (now().type != ';') {
                int place = now().place;
                int value = number(2, 5);
                if (numbers.size() == 6) {
                    throw new Fault(place, 4);
                }
                numbers.add(value);
            }
            newCadences.add(numbers);
            return;
        }
        if (word.type != 'w' || !firstValues().containsKey(word.text)) {
            throw new Fault(word.place, 1);
        }
        if (toldValues.containsKey(word.text)) {
            throw new Fault(word.place, 3);
        }
        at++;
        if (word.text.equals("measure")) {
            int measure = List.of("sum", "most", "many").indexOf(now().text);
            if (measure < 0) {
                throw new Fault(now().place, 1);
            }
            at++;
            toldValues.put("measure", measure);
        } else {
            toldValues.put(word.text, number(0, 999));
        }
    }

    int frame(int frame, int parity, int k) {
        return ofFrame(film, frame, parity, k);
    }

    private int ofFrame(List<Frame> frames, int frame, int parity, int k) {
        if (frame < 0 || frame >= frames.size() || parity < 0 || parity > 1 || k < 0 || k >= width) {
            return NONE;
        }
        return frames.get(frame).row(parity).get(k);
    }

    int cadence(int cadence, int i) {
        if (cadence < 0 || cadence >= cadences.size()) {
            return NONE;
        }
        List<Integer> numbers = cadences.get(cadence);
        if (i == NONE) {
            return numbers.size();
        }
        return i >= 0 && i < numbers.size() ? numbers.get(i) : NONE;
    }

    int force(int cadence) {
        if (cadence < 0 || cadence >= cadences.size()) {
            return NONE;
        }
        int before = inForce;
        inForce = cadence;
        return before;
    }

    // ---- acts

    private void act(List<Field> next) {
        undoable.addLast(fields);
        if (undoable.size() > 12) {
            undoable.removeFirst();
        }
        fields = next;
        paths.clear();
    }

    private List<Field> carried(List<Frame> frames, List<Integer> numbers, int place, int first) {
        List<Field> all = new ArrayList<>();
        for (int f = 0; f < frames.size(); f++) {
            int many = numbers.get((place + f) % numbers.size());
            for (int j = 0; j < many; j++) {
                int parity = (first + all.size()) % 2;
                all.add(new Field(parity, frames.get(f).row(parity)));
            }
        }
        return all.size() > 90 ? new ArrayList<>(all.subList(0, 90)) : all;
    }

    int carry(int place, int parity) {
        List<Integer> numbers = cadences.get(inForce);
        if (film.isEmpty() || place < 0 || place >= numbers.size() || parity < 0 || parity > 1) {
            return NONE;
        }
        act(carried(film, numbers, place, parity));
        return fields.size();
    }

    private boolean areThere(int from, int n) {
        return from >= 0 && n >= 1 && (long) from + n <= fields.size();
    }

    int cut(int from, int n) {
        if (!areThere(from, n)) {
            return NONE;
        }
        List<Field> next = new ArrayList<>(fields);
        next.subList(from, from + n).clear();
        act(next);
        return fields.size();
    }

    int doubled(int from, int n) {
        if (!areThere(from, n) || fields.size() + n > 90) {
            return NONE;
        }
        List<Field> next = new ArrayList<>(fields);
        next.addAll(from + n, fields.subList(from, from + n));
        act(next);
        return fields.size();
    }

    int noise(int seed, int m) {
        if (m < 1 || m > 9 || fields.isEmpty()) {
            return NONE;
        }
        int x = seed;
        int changed = 0;
        List<Field> next = new ArrayList<>();
        for (Field field : fields) {
            List<Integer> samples = new ArrayList<>();
            for (int sample : field.samples) {
                x = (int) (1664525L * x + 1013904223L);
                long top = (x & 0xFFFFFFFFL) / 256;
                int moved = Math.max(0, Math.min(99, (int) (sample + top % (2 * m + 1) - m)));
                samples.add(moved);
                if (moved != sample) {
                    changed++;
                }
            }
            next.add(new Field(field.parity, samples));
        }
        act(next);
        return changed;
    }

    int set(int field, int k, int v) {
        if (field < 0 || field >= fields.size() || k < 0 || k >= width || v < 0 || v > 99) {
            return NONE;
        }
        List<Field> next = new ArrayList<>(fields);
        List<Integer> samples = new ArrayList<>(fields.get(field).samples);
        int before = samples.set(k, v);
        next.set(field, new Field(fields.get(field).parity, samples));
        act(next);
        return before;
    }

    int undo() {
        if (undoable.isEmpty()) {
            return NONE;
        }
        fields = undoable.removeLast();
        paths.clear();
        return undoable.size();
    }

    int field(int field, int k) {
        if (field < 0 || field >= fields.size() || k < NONE || k >= width) {
            return Check.THROWS;
        }
        return k == NONE ? fields.get(field).parity : fields.get(field).samples.get(k);
    }

    int apart(int field, int other) {
        if (field < 0 || field >= fields.size() || other < 0 || other >= fields.size()) {
            return NONE;
        }
        return gap(fields.get(field), fields.get(other));
    }

    private int gap(Field a, Field b) {
        List<Integer> gaps = new ArrayList<>();
        for (int k = 0; k < width; k++) {
            gaps.add(Math.abs(a.samples.get(k) - b.samples.get(k)));
        }
        return switch (values.get("measure")) {
            case 0 -> gaps.stream().mapToInt(g -> g).sum();
            case 1 -> gaps.stream().mapToInt(g -> g).max().orElse(0);
            default -> (int) gaps.stream().filter(g -> g != 0).count();
        };
    }

    // ---- the path

    private int costOf(int i, int seen, int edit) {
        int cost = edit == 1 ? values.get("edit") : 0;
        if (i < 2) {
            return cost;
        }
        Field a = fields.get(i);
        Field b = fields.get(i - 2);
        boolean alike = gap(a, b) <= values.get("slack");
        if (seen >= 2) {
            return cost + (alike ? 0 : Math.min(999, gap(a, b)));
        }
        return cost + (a.parity == b.parity && alike ? values.get("still") : 0);
    }

    /** All nodes that field i can have behind one of these; null: the first field. */
    List<Node> choices(int cadence, Node before, int i) {
        List<Integer> numbers = cadences.get(cadence);
        List<Node> choices = new ArrayList<>();
        Node on = null;
        if (before != null && fields.get(i).parity != fields.get(i - 1).parity) {
            if (before.step + 1 < numbers.get(before.place)) {
                int seen = before.seen + 1;
                on = new Node(before.place, before.step + 1, seen, 0, costOf(i, seen, 0));
            } else {
                on = new Node((before.place + 1) % numbers.size(), 0, 0, 0, costOf(i, 0, 0));
            }
            choices.add(on);
        }
        int edit = before == null ? 0 : 1;
        for (int place = 0; place < numbers.size(); place++) {
            for (int step = 0; step < numbers.get(place); step++) {
                boolean isOn = on != null && on.place == place && on.step == step && on.seen == 0;
                if (!isOn) {
                    choices.add(new Node(place, step, 0, edit, costOf(i, 0, edit)));
                }
            }
        }
        return choices;
    }

    Path pathBy(int cadence) {
        return paths.computeIfAbsent(cadence, this::findPath);
    }

    private Path findPath(int cadence) {
        Path none = new Path(0, 0, List.of());
        List<Path> open = List.of(none);
        for (int i = 0; i < fields.size(); i++) {
            Map<List<Integer>, Path> best = new HashMap<>();
            for (Path path : open) {
                Node before = i == 0 ? null : path.nodes.get(i - 1);
                for (Node node : choices(cadence, before, i)) {
                    List<Integer> key = List.of(node.place, node.step, node.seen);
                    Path rival = best.get(key);
                    if (rival != null && path.cost + node.cost > rival.cost) {
                        continue;
                    }
                    Path next = path.with(node);
                    if (rival == null || next.isAheadOf(rival)) {
                        best.put(key, next);
                    }
                }
            }
            open = new ArrayList<>(best.values());
        }
        Path least = open.get(0);
        for (Path path : open) {
            if (path.isAheadOf(least)) {
                least = path;
            }
        }
        return least;
    }

    /** Every path there is, one by one: only for a few fields. */
    Path pathByTryingAll(int cadence) {
        return tryAll(cadence, new Path(0, 0, List.of()), null);
    }

    private Path tryAll(int cadence, Path path, Path least) {
        int i = path.nodes.size();
        if (i == fields.size()) {
            return least == null || path.isAheadOf(least) ? path : least;
        }
        Path best = least;
        for (Node node : choices(cadence, i == 0 ? null : path.nodes.get(i - 1), i)) {
            best = tryAll(cadence, path.with(node), best);
        }
        return best;
    }

    /** The groups of the path: of each the numbers of its fields. */
    private List<List<Integer>> groups() {
        List<List<Integer>> groups = new ArrayList<>();
        List<Node> nodes = pathBy(inForce).nodes;
        for (int i = 0; i < nodes.size(); i++) {
            if (nodes.get(i).seen == 0) {
                groups.add(new ArrayList<>());
            }
            groups.get(groups.size() - 1).add(i);
        }
        return groups;
    }

    private Field firstOf(List<Integer> group, int parity) {
        for (int i : group) {
            if (fields.get(i).parity == parity) {
                return fields.get(i);
            }
        }
        return null;
    }

    private boolean isOrphan(List<Integer> group) {
        return firstOf(group, 0) == null || firstOf(group, 1) == null;
    }

    private int[] mates() {
        List<List<Integer>> groups = groups();
        int[] mates = new int[groups.size()];
        Arrays.fill(mates, NONE);
        for (int g = 0; g + 1 < mates.length; g++) {
            if (mates[g] != NONE || !isOrphan(groups.get(g)) || !isOrphan(groups.get(g + 1))) {
                continue;
            }
            Field a = fields.get(groups.get(g).get(0));
            Field b = fields.get(groups.get(g + 1).get(0));
            if (a.parity != b.parity && gap(a, b) <= values.get("mate")) {
                mates[g] = g + 1;
                mates[g + 1] = g;
            }
        }
        return mates;
    }

    private int[] framesOfGroups() {
        int[] mates = mates();
        int[] frames = new int[mates.length];
        int next = 0;
        for (int g = 0; g < mates.length; g++) {
            frames[g] = mates[g] != NONE && mates[g] < g ? frames[mates[g]] : next++;
        }
        return frames;
    }

    private List<Frame> foundFrames() {
        List<List<Integer>> groups = groups();
        int[] framesOf = framesOfGroups();
        List<List<Integer>> members = new ArrayList<>();
        for (int g = 0; g < framesOf.length; g++) {
            if (framesOf[g] == members.size()) {
                members.add(new ArrayList<>());
            }
            members.get(framesOf[g]).addAll(groups.get(g));
        }
        List<Frame> frames = new ArrayList<>();
        for (List<Integer> group : members) {
            Field top = firstOf(group, 0);
            Field bottom = firstOf(group, 1);
            frames.add(new Frame((top == null ? bottom : top).samples, (bottom == null ? top : bottom).samples));
        }
        return frames;
    }

    private boolean isKept(int i) {
        for (List<Integer> group : groups()) {
            if (group.contains(i)) {
                return firstOf(group, fields.get(i).parity) == fields.get(i)
                    && group.stream().filter(j -> j < i).noneMatch(j -> fields.get(j).parity == fields.get(i).parity);
            }
        }
        return false;
    }

    int path(int field, int what) {
        if (field < 0 || field >= fields.size() || what < 0 || what > 7) {
            return NONE;
        }
        Node node = pathBy(inForce).nodes.get(field);
        int group = 0;
        while (!groups().get(group).contains(field)) {
            group++;
        }
        int[] answers = {node.place, node.step, node.seen, node.edit, node.cost, group,
            isKept(field) ? 1 : 0, framesOfGroups()[group]};
        return answers[what];
    }

    int all(int what) {
        Path path = pathBy(inForce);
        switch (what) {
            case 0:
                return path.cost;
            case 1:
                return path.edits;
            case 2:
                return groups().size();
            case 3:
                int dropped = 0;
                for (int i = 0; i < fields.size(); i++) {
                    dropped += isKept(i) ? 0 : 1;
                }
                return dropped;
            case 4:
                return (int) groups().stream().filter(this::isOrphan).count();
            case 5:
                return (int) Arrays.stream(mates()).filter(g -> g != NONE).count() / 2;
            case 6:
                return foundFrames().size();
            default:
                return NONE;
        }
    }

    int edit(int i) {
        int left = i;
        List<Node> nodes = pathBy(inForce).nodes;
        for (int f = 0; f < nodes.size(); f++) {
            if (nodes.get(f).edit == 1 && left-- == 0) {
                return f;
            }
        }
        return NONE;
    }

    int group(int group, int what) {
        List<List<Integer>> groups = groups();
        if (group < 0 || group >= groups.size() || what < 0 || what > 3) {
            return -2;
        }
        List<Integer> one = groups.get(group);
        int[] answers = {one.get(0), one.size(), isOrphan(one) ? 1 : 0, mates()[group]};
        return answers[what];
    }

    int found(int frame, int parity, int k) {
        return ofFrame(foundFrames(), frame, parity, k);
    }

    int known(int frame) {
        List<Frame> frames = foundFrames();
        return frame >= 0 && frame < frames.size() ? film.indexOf(frames.get(frame)) : NONE;
    }

    int restored() {
        if (film.isEmpty()) {
            return NONE;
        }
        List<Frame> frames = foundFrames();
        int[][] most = new int[film.size() + 1][frames.size() + 1];
        for (int a = film.size() - 1; a >= 0; a--) {
            for (int b = frames.size() - 1; b >= 0; b--) {
                most[a][b] = Math.max(most[a + 1][b], most[a][b + 1]);
                if (film.get(a).equals(frames.get(b))) {
                    most[a][b] = Math.max(most[a][b], most[a + 1][b + 1] + 1);
                }
            }
        }
        return most[0][0];
    }

    int costs(int cadence) {
        return cadence >= 0 && cadence < cadences.size() ? pathBy(cadence).cost : NONE;
    }

    int guess(int what) {
        int likely = 0;
        for (int c = 0; c < cadences.size(); c++) {
            if (pathBy(c).cost < pathBy(likely).cost) {
                likely = c;
            }
        }
        if (what == 0) {
            return likely;
        }
        if (fields.isEmpty() || what < 0 || what > 2) {
            return NONE;
        }
        Node first = pathBy(likely).nodes.get(0);
        return what == 1 ? first.place : first.step;
    }

    int anew(int cadence, int i, int k) {
        if (cadence < 0 || cadence >= cadences.size()) {
            return NONE;
        }
        List<Field> again = carried(foundFrames(), cadences.get(cadence), 0, 0);
        if (k == NONE) {
            return again.size();
        }
        if (i < 0 || i >= again.size() || k < -2 || k >= width) {
            return NONE;
        }
        return k == -2 ? again.get(i).parity : again.get(i).samples.get(k);
    }

    boolean isClean(int cadence) {
        return cadence >= 0 && cadence < cadences.size()
            && carried(foundFrames(), cadences.get(cadence), 0, 0).equals(fields);
    }

    int count(int what) {
        int[] answers = {film.isEmpty() ? 0 : width, film.size(), fields.size(), cadences.size(), inForce,
            values.get("slack"), values.get("edit"), values.get("still"), values.get("mate"),
            values.get("measure"), undoable.size(), tape.length()};
        return what >= 0 && what < answers.length ? answers[what] : NONE;
    }
}
