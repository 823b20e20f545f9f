import java.util.NoSuchElementException;

/**
 * Finds the repeated fields of a film that was carried by a cadence, tracks the
 * cadence through edits and rebuilds the frames; ../shared/DOC.md says each call.
 *
 * All rows are made once, in the constructors: a call makes no object.
 */
public final class CadenceDesk {
    public static final int NONE = -1;

    private static final int NO_GROUP = -2;
    private static final int ASKS_PARITY = -2;

    private static final int TAPE_WORDS = 225;
    private static final int FEED_WORDS = 5;

    private static final int MOST_FIELDS = 90;
    private static final int MOST_FRAMES = 20;
    private static final int MOST_WIDTH = 6;
    private static final int MOST_SAMPLE = 99;
    private static final int MOST_CADENCES = 4;
    private static final int MOST_NUMBERS = 6;
    private static final int LEAST_NUMBER = 2;
    private static final int MOST_NUMBER = 5;
    private static final int MOST_ACTS = 12;
    private static final int MOST_NOISE = 9;
    private static final int MOST_VALUE = 999;

    /* Six places of five steps each, with 1 + 2 + 3 + 4 + 5 pairs of step and seen. */
    private static final int MOST_STATES = 90;

    /* The plain values of the rules, in the order in which count tells them. */
    private static final int SLACK = 0;
    private static final int EDIT = 1;
    private static final int STILL = 2;
    private static final int MATE = 3;
    private static final int MEASURE = 4;
    private static final int VALUES = 5;

    private static final int BY_SUM = 0;
    private static final int BY_MOST = 1;
    private static final int BY_MANY = 2;

    private static final int SAMPLE_BITS = 7;
    private static final long SAMPLE_MASK = 127L;

    private final Telling telling = new Telling();
    private final Frames told = new Frames(MOST_FRAMES);
    private final Rules ruling = new Rules();
    private final Reel reel = new Reel();
    private final History history = new History();
    private final Finder finder = new Finder();
    private final Track track = new Track();
    private final Groups groups = new Groups();
    private final Reel renewed = new Reel();
    private final int[] inOrder = new int[MOST_FRAMES + 1];
    private int inForce;
    private boolean tracked;

    public CadenceDesk() {
        inForce = 0;
        tracked = false;
    }

    public int feed(int a, int b, int c, int d, int e) {
        Tape tape = telling.tape();
        if (!tape.hasRoom()) {
            return NONE;
        }
        tape.put(a);
        tape.put(b);
        tape.put(c);
        tape.put(d);
        tape.put(e);
        return tape.size();
    }

    public int film(int n) {
        if (!telling.tape().holds(n)) {
            return NONE;
        }
        boolean taken = telling.readFilm(n);
        telling.tape().empty();
        if (!taken) {
            return -2 - telling.fault();
        }
        told.copyFrom(telling.frames());
        reel.empty();
        history.empty();
        forgetPaths();
        return told.size();
    }

    public int rules(int n) {
        if (!telling.tape().holds(n)) {
            return NONE;
        }
        boolean taken = telling.readRules(n);
        telling.tape().empty();
        if (!taken) {
            return -2 - telling.fault();
        }
        ruling.copyFrom(telling.rulesRead());
        inForce = 0;
        history.empty();
        forgetPaths();
        return ruling.cadences();
    }

    public int frame(int frame, int parity, int k) {
        return sampleOfFrame(told, frame, parity, k);
    }

    public int cadence(int cadence, int i) {
        if (!ruling.hasCadence(cadence)) {
            return NONE;
        }
        if (i == NONE) {
            return ruling.length(cadence);
        }
        return ruling.hasPlace(cadence, i) ? ruling.number(cadence, i) : NONE;
    }

    public int force(int cadence) {
        if (!ruling.hasCadence(cadence)) {
            return NONE;
        }
        int before = inForce;
        inForce = cadence;
        tracked = false;
        return before;
    }

    // ---- acts

    public int carry(int place, int parity) {
        if (told.size() == 0 || !ruling.hasPlace(inForce, place) || !isParity(parity)) {
            return NONE;
        }
        beginAct();
        reel.carryFrames(told, ruling, inForce, place, parity);
        return reel.size();
    }

    public int cut(int from, int n) {
        if (!reel.hasSpan(from, n)) {
            return NONE;
        }
        beginAct();
        reel.removeSpan(from, n);
        return reel.size();
    }

    public int doubled(int from, int n) {
        if (!reel.hasSpan(from, n) || n > MOST_FIELDS - reel.size()) {
            return NONE;
        }
        beginAct();
        reel.repeatSpan(from, n);
        return reel.size();
    }

    public int noise(int seed, int m) {
        if (reel.size() == 0 || m < 1 || m > MOST_NOISE) {
            return NONE;
        }
        beginAct();
        return reel.disturb(seed, m, told.width());
    }

    public int set(int field, int k, int v) {
        if (!reel.has(field) || !isSampleNumber(k) || v < 0 || v > MOST_SAMPLE) {
            return NONE;
        }
        beginAct();
        int before = reel.sample(field, k);
        reel.putSample(field, k, v);
        return before;
    }

    public int undo() {
        if (history.size() == 0) {
            return NONE;
        }
        history.giveBack(reel);
        forgetPaths();
        return history.size();
    }

    public int field(int field, int k) throws NoSuchElementException {
        if (!reel.has(field)) {
            throw new NoSuchElementException("no such field");
        }
        if (k == NONE) {
            return reel.parity(field);
        }
        if (!isSampleNumber(k)) {
            throw new NoSuchElementException("no such sample");
        }
        return reel.sample(field, k);
    }

    public int apart(int field, int other) {
        if (!reel.has(field) || !reel.has(other)) {
            return NONE;
        }
        return ruling.distance(reel.row(field), reel.row(other));
    }

    // ---- the path, by the cadence in force

    public int path(int field, int what) {
        if (!reel.has(field)) {
            return NONE;
        }
        followPath();
        switch (what) {
            case 0:
                return track.place(field);
            case 1:
                return track.step(field);
            case 2:
                return track.seen(field);
            case 3:
                return track.isEdit(field) ? 1 : 0;
            case 4:
                return track.price(field);
            case 5:
                return groups.groupOf(field);
            case 6:
                return track.isKept(field) ? 1 : 0;
            case 7:
                return groups.frameOf(groups.groupOf(field));
            default:
                return NONE;
        }
    }

    public int all(int what) {
        followPath();
        switch (what) {
            case 0:
                return track.total();
            case 1:
                return track.edits();
            case 2:
                return groups.size();
            case 3:
                return track.dropped();
            case 4:
                return groups.orphans();
            case 5:
                return groups.pairs();
            case 6:
                return groups.frames().size();
            default:
                return NONE;
        }
    }

    public int edit(int i) {
        followPath();
        return i >= 0 && i < track.edits() ? track.fieldOfEdit(i) : NONE;
    }

    public int group(int group, int what) {
        followPath();
        if (!groups.has(group)) {
            return NO_GROUP;
        }
        switch (what) {
            case 0:
                return groups.start(group);
            case 1:
                return groups.length(group);
            case 2:
                return groups.isOrphan(group) ? 1 : 0;
            case 3:
                return groups.mateOf(group);
            default:
                return NO_GROUP;
        }
    }

    public int found(int frame, int parity, int k) {
        followPath();
        return sampleOfFrame(groups.frames(), frame, parity, k);
    }

    public int known(int frame) {
        followPath();
        Frames rebuilt = groups.frames();
        if (!rebuilt.has(frame)) {
            return NONE;
        }
        for (int f = 0; f < told.size(); f++) {
            if (told.isSame(f, rebuilt, frame)) {
                return f;
            }
        }
        return NONE;
    }

    public int restored() {
        if (told.size() == 0) {
            return NONE;
        }
        followPath();
        return mostInOrder(groups.frames());
    }

    public int costs(int cadence) {
        return ruling.hasCadence(cadence) ? finder.costBy(reel, ruling, cadence) : NONE;
    }

    public int guess(int what) {
        int likely = 0;
        for (int c = 0; c < ruling.cadences(); c++) {
            if (finder.costBy(reel, ruling, c) < finder.costBy(reel, ruling, likely)) {
                likely = c;
            }
        }
        if (what == 0) {
            return likely;
        }
        if (reel.size() == 0) {
            return NONE;
        }
        if (what == 1) {
            return finder.firstPlace(likely);
        }
        return what == 2 ? finder.firstStep(likely) : NONE;
    }

    // ---- carried anew

    public int anew(int cadence, int i, int k) {
        if (!ruling.hasCadence(cadence)) {
            return NONE;
        }
        followPath();
        renewed.carryFrames(groups.frames(), ruling, cadence, 0, 0);
        if (k == NONE) {
            return renewed.size();
        }
        if (!renewed.has(i)) {
            return NONE;
        }
        if (k == ASKS_PARITY) {
            return renewed.parity(i);
        }
        return isSampleNumber(k) ? renewed.sample(i, k) : NONE;
    }

    public boolean isClean(int cadence) {
        if (!ruling.hasCadence(cadence)) {
            return false;
        }
        followPath();
        renewed.carryFrames(groups.frames(), ruling, cadence, 0, 0);
        return renewed.isSame(reel);
    }

    public int count(int what) {
        switch (what) {
            case 0:
                return told.width();
            case 1:
                return told.size();
            case 2:
                return reel.size();
            case 3:
                return ruling.cadences();
            case 4:
                return inForce;
            case 5:
                return ruling.value(SLACK);
            case 6:
                return ruling.value(EDIT);
            case 7:
                return ruling.value(STILL);
            case 8:
                return ruling.value(MATE);
            case 9:
                return ruling.value(MEASURE);
            case 10:
                return history.size();
            case 11:
                return telling.tape().size();
            default:
                return NONE;
        }
    }

    // ---- what the calls share

    private void beginAct() {
        history.keep(reel);
        forgetPaths();
    }

    private void forgetPaths() {
        tracked = false;
        finder.forget();
    }

    private void followPath() {
        if (tracked) {
            return;
        }
        finder.solve(reel, ruling, inForce);
        track.follow(finder, reel, ruling);
        groups.gather(track, reel, ruling);
        tracked = true;
    }

    /* The longest common order of the film and the rebuilt frames, row by row of its table. */
    private int mostInOrder(Frames rebuilt) {
        for (int j = 0; j <= MOST_FRAMES; j++) {
            inOrder[j] = 0;
        }
        for (int f = 0; f < rebuilt.size(); f++) {
            int corner = 0;
            for (int j = 1; j <= told.size(); j++) {
                int above = inOrder[j];
                boolean same = told.isSame(j - 1, rebuilt, f);
                inOrder[j] = same ? corner + 1 : Math.max(above, inOrder[j - 1]);
                corner = above;
            }
        }
        return inOrder[told.size()];
    }

    private int sampleOfFrame(Frames frames, int f, int parity, int k) {
        if (!frames.has(f) || !isParity(parity) || !isSampleNumber(k)) {
            return NONE;
        }
        return sampleOf(frames.row(f, parity), k);
    }

    private boolean isSampleNumber(int k) {
        return k >= 0 && k < told.width();
    }

    private static boolean isParity(int parity) {
        return parity == 0 || parity == 1;
    }

    /*
     * A row of samples is one long, seven bits for each sample: so a kept state of
     * the fields is small, and two rows are the same when their longs are.
     */
    private static int sampleOf(long row, int k) {
        return (int) ((row >>> (SAMPLE_BITS * k)) & SAMPLE_MASK);
    }

    private static long withSample(long row, int k, int v) {
        int shift = SAMPLE_BITS * k;
        return (row & ~(SAMPLE_MASK << shift)) | ((long) v << shift);
    }

    /** The bytes that were fed, four in an int as they came, and the tokens in them. */
    private static final class Tape {
        static final int END = 0;
        static final int WORD = 1;
        static final int NUMBER = 2;
        static final int SEMICOLON = 3;
        static final int NO_TOKEN = 4;

        private static final int MOST_DIGITS = 4;

        private final int[] words = new int[TAPE_WORDS];
        private int used = 0;
        private int end = 0;
        private int next = 0;
        private int start = 0;
        private int kind = END;
        private int number = 0;

        boolean hasRoom() {
            return used + FEED_WORDS <= TAPE_WORDS;
        }

        void put(int word) {
            if (used < TAPE_WORDS) {
                words[used] = word;
                used++;
            }
        }

        int size() {
            return 4 * used;
        }

        boolean holds(int n) {
            return n >= 0 && n <= size();
        }

        void empty() {
            used = 0;
        }

        /* Reads the first token of the first n bytes. */
        void open(int n) {
            end = holds(n) ? n : 0;
            next = 0;
            advance();
        }

        int kind() {
            return kind;
        }

        int start() {
            return start;
        }

        int number() {
            return number;
        }

        void advance() {
            while (next < end && isBlank(byteAt(next))) {
                next++;
            }
            start = next;
            if (next >= end) {
                kind = END;
                return;
            }
            int first = byteAt(next);
            if (isLetter(first)) {
                passWord();
            } else if (isDigit(first)) {
                passNumber();
            } else {
                kind = first == ';' ? SEMICOLON : NO_TOKEN;
                next++;
            }
        }

        boolean isWord(String word) {
            if (kind != WORD || next - start != word.length()) {
                return false;
            }
            for (int i = 0; i < word.length(); i++) {
                if (byteAt(start + i) != word.charAt(i)) {
                    return false;
                }
            }
            return true;
        }

        private void passWord() {
            while (next < end && isLetter(byteAt(next))) {
                next++;
            }
            kind = WORD;
        }

        private void passNumber() {
            number = 0;
            while (next < end && isDigit(byteAt(next))) {
                if (next - start < MOST_DIGITS) {
                    number = 10 * number + byteAt(next) - '0';
                }
                next++;
            }
            kind = next - start <= MOST_DIGITS ? NUMBER : NO_TOKEN;
        }

        private int byteAt(int i) {
            if (i < 0 || i >= 4 * used) {
                return 0;
            }
            return (words[i >> 2] >>> (24 - 8 * (i & 3))) & 255;
        }

        private static boolean isBlank(int b) {
            return b == 32 || b == 10;
        }

        private static boolean isLetter(int b) {
            return b >= 'a' && b <= 'z';
        }

        private static boolean isDigit(int b) {
            return b >= '0' && b <= '9';
        }
    }

    /**
     * Reads a film or rules from the tape into drafts, so that a fault changes nothing
     * else. Tokens are taken in their order: the first fault met has the least place.
     */
    private static final class Telling {
        private static final int UNFIT = 1;
        private static final int OUT_OF_BOUNDS = 2;
        private static final int TOLD_TWICE = 3;
        private static final int TOO_MANY = 4;

        private static final int MOST_LINES = MOST_CADENCES + VALUES;

        private final Tape tape = new Tape();
        private final Frames frames = new Frames(MOST_FRAMES);
        private final Rules rulesRead = new Rules();
        private int fault = 0;
        private int taken = 0;
        private int toldValues = 0;

        Tape tape() {
            return tape;
        }

        Frames frames() {
            return frames;
        }

        Rules rulesRead() {
            return rulesRead;
        }

        /* 8 * place + kind of the latest fault. */
        int fault() {
            return fault;
        }

        boolean readFilm(int n) {
            tape.open(n);
            if (!takeWord("width") || !takeNumber(1, MOST_WIDTH)) {
                return false;
            }
            frames.begin(taken);
            if (!takeSemicolon()) {
                return false;
            }
            for (int f = 0; f <= MOST_FRAMES; f++) {
                if (f > 0 && tape.kind() == Tape.END) {
                    return true;
                }
                if (!readFrame(f)) {
                    return false;
                }
            }
            return false;
        }

        private boolean readFrame(int f) {
            if (!tape.isWord("frame")) {
                return refuse(UNFIT);
            }
            if (f >= MOST_FRAMES) {
                return refuse(TOO_MANY);
            }
            tape.advance();
            long top = 0L;
            long bottom = 0L;
            int width = frames.width();
            for (int k = 0; k < 2 * width; k++) {
                if (!takeNumber(0, MOST_SAMPLE)) {
                    return false;
                }
                if (k < width) {
                    top = withSample(top, k, taken);
                } else {
                    bottom = withSample(bottom, k - width, taken);
                }
            }
            frames.add(top, bottom);
            return takeSemicolon();
        }

        boolean readRules(int n) {
            tape.open(n);
            rulesRead.clear();
            toldValues = 0;
            for (int line = 0; line <= MOST_LINES; line++) {
                if (tape.kind() == Tape.END) {
                    return rulesRead.cadences() > 0 || refuse(UNFIT);
                }
                boolean good = tape.isWord("cadence") ? readCadence() : readValue(valueTold());
                if (!good || !takeSemicolon()) {
                    return false;
                }
            }
            return false;
        }

        private boolean readCadence() {
            if (rulesRead.cadences() >= MOST_CADENCES) {
                return refuse(TOO_MANY);
            }
            tape.advance();
            rulesRead.addCadence();
            for (int i = 0; i <= MOST_NUMBERS; i++) {
                if (i > 0 && tape.kind() == Tape.SEMICOLON) {
                    return true;
                }
                if (!isNumberWithin(LEAST_NUMBER, MOST_NUMBER)) {
                    return false;
                }
                if (i >= MOST_NUMBERS) {
                    return refuse(TOO_MANY);
                }
                rulesRead.addNumber(tape.number());
                tape.advance();
            }
            return false;
        }

        private int valueTold() {
            if (tape.isWord("slack")) {
                return SLACK;
            }
            if (tape.isWord("edit")) {
                return EDIT;
            }
            if (tape.isWord("still")) {
                return STILL;
            }
            if (tape.isWord("mate")) {
                return MATE;
            }
            return tape.isWord("measure") ? MEASURE : NONE;
        }

        private boolean readValue(int which) {
            if (which == NONE) {
                return refuse(UNFIT);
            }
            int mark = 1 << which;
            if ((toldValues & mark) != 0) {
                return refuse(TOLD_TWICE);
            }
            toldValues |= mark;
            tape.advance();
            if (which == MEASURE ? !takeMeasure() : !takeNumber(0, MOST_VALUE)) {
                return false;
            }
            rulesRead.putValue(which, taken);
            return true;
        }

        private boolean takeMeasure() {
            if (tape.isWord("sum")) {
                taken = BY_SUM;
            } else if (tape.isWord("most")) {
                taken = BY_MOST;
            } else if (tape.isWord("many")) {
                taken = BY_MANY;
            } else {
                return refuse(UNFIT);
            }
            tape.advance();
            return true;
        }

        private boolean takeWord(String word) {
            if (!tape.isWord(word)) {
                return refuse(UNFIT);
            }
            tape.advance();
            return true;
        }

        private boolean takeSemicolon() {
            if (tape.kind() != Tape.SEMICOLON) {
                return refuse(UNFIT);
            }
            tape.advance();
            return true;
        }

        private boolean takeNumber(int least, int most) {
            if (!isNumberWithin(least, most)) {
                return false;
            }
            taken = tape.number();
            tape.advance();
            return true;
        }

        private boolean isNumberWithin(int least, int most) {
            if (tape.kind() != Tape.NUMBER) {
                return refuse(UNFIT);
            }
            if (tape.number() < least || tape.number() > most) {
                return refuse(OUT_OF_BOUNDS);
            }
            return true;
        }

        private boolean refuse(int kind) {
            fault = 8 * tape.start() + kind;
            return false;
        }
    }

    /** Frames in a row: those of the film, or those that were rebuilt. */
    private static final class Frames {
        private final long[] tops;
        private final long[] bottoms;
        private int width = 0;
        private int size = 0;

        Frames(int most) {
            int length = Math.max(0, most);
            tops = new long[length];
            bottoms = new long[length];
        }

        void begin(int newWidth) {
            width = newWidth;
            size = 0;
        }

        int width() {
            return width;
        }

        int size() {
            return size;
        }

        boolean has(int f) {
            return f >= 0 && f < size;
        }

        void add(long top, long bottom) {
            if (size < tops.length && size < bottoms.length) {
                tops[size] = top;
                bottoms[size] = bottom;
                size++;
            }
        }

        long row(int f, int parity) {
            if (!has(f)) {
                return 0L;
            }
            return parity == 0 ? tops[f] : bottoms[f];
        }

        boolean isSame(int f, Frames others, int other) {
            return row(f, 0) == others.row(other, 0) && row(f, 1) == others.row(other, 1);
        }

        void copyFrom(Frames others) {
            begin(others.width);
            for (int f = 0; f < others.size; f++) {
                add(others.row(f, 0), others.row(f, 1));
            }
        }
    }

    /** The cadences and the plain values, and what they say of two rows or of a field. */
    private static final class Rules {
        private static final int FIRST_EDIT = 40;
        private static final int FIRST_STILL = 10;

        private final int[] numbers = new int[MOST_CADENCES * MOST_NUMBERS];
        private final int[] lengths = new int[MOST_CADENCES];
        private final int[] values = new int[VALUES];
        private int cadences = 0;

        Rules() {
            clear();
            addCadence();
            addNumber(2);
            addNumber(3);
        }

        /* What rules don't tell is as at first, but for the cadences. */
        void clear() {
            cadences = 0;
            values[SLACK] = 0;
            values[EDIT] = FIRST_EDIT;
            values[STILL] = FIRST_STILL;
            values[MATE] = 0;
            values[MEASURE] = BY_SUM;
        }

        void addCadence() {
            if (cadences < MOST_CADENCES) {
                lengths[cadences] = 0;
                cadences++;
            }
        }

        void addNumber(int number) {
            int last = cadences - 1;
            if (last >= 0 && lengths[last] < MOST_NUMBERS) {
                numbers[last * MOST_NUMBERS + lengths[last]] = number;
                lengths[last]++;
            }
        }

        void putValue(int which, int value) {
            if (which >= 0 && which < VALUES) {
                values[which] = value;
            }
        }

        void copyFrom(Rules others) {
            System.arraycopy(others.numbers, 0, numbers, 0, MOST_CADENCES * MOST_NUMBERS);
            System.arraycopy(others.lengths, 0, lengths, 0, MOST_CADENCES);
            System.arraycopy(others.values, 0, values, 0, VALUES);
            cadences = others.cadences;
        }

        int cadences() {
            return cadences;
        }

        boolean hasCadence(int c) {
            return c >= 0 && c < cadences;
        }

        int length(int c) {
            return hasCadence(c) ? lengths[c] : 0;
        }

        boolean hasPlace(int c, int place) {
            return place >= 0 && place < length(c);
        }

        int number(int c, int place) {
            return hasPlace(c, place) ? numbers[c * MOST_NUMBERS + place] : 0;
        }

        int value(int which) {
            return which >= 0 && which < VALUES ? values[which] : 0;
        }

        /* Samples beyond the width are 0 in every row and add nothing. */
        int distance(long row, long other) {
            int sum = 0;
            int most = 0;
            int many = 0;
            for (int k = 0; k < MOST_WIDTH; k++) {
                int gap = Math.abs(sampleOf(row, k) - sampleOf(other, k));
                sum += gap;
                most = Math.max(most, gap);
                many += gap > 0 ? 1 : 0;
            }
            if (values[MEASURE] == BY_SUM) {
                return sum;
            }
            return values[MEASURE] == BY_MOST ? most : many;
        }

        /* The cost of a field as a repeat of the one two ahead (seen 2 or more). */
        int costOfRepeat(Reel reel, int i) {
            if (!reel.has(i - 2)) {
                return 0;
            }
            int gap = distance(reel.row(i), reel.row(i - 2));
            return gap <= values[SLACK] ? 0 : Math.min(gap, MOST_VALUE);
        }

        /* The cost of a field that is no repeat (seen 0 or 1): dear if it looks like one. */
        int costOfFresh(Reel reel, int i) {
            if (!reel.has(i - 2) || reel.parity(i) != reel.parity(i - 2)) {
                return 0;
            }
            int gap = distance(reel.row(i), reel.row(i - 2));
            return gap <= values[SLACK] ? values[STILL] : 0;
        }
    }

    /** Fields in a row, each one long: its row of samples and, above it, its parity. */
    private static final class Reel {
        private static final int PARITY_SHIFT = SAMPLE_BITS * MOST_WIDTH;
        private static final long ROW_MASK = (1L << PARITY_SHIFT) - 1L;

        private final long[] fields = new long[MOST_FIELDS];
        private int size = 0;

        int size() {
            return size;
        }

        void empty() {
            size = 0;
        }

        boolean has(int i) {
            return i >= 0 && i < size;
        }

        boolean hasSpan(int from, int n) {
            return has(from) && n >= 1 && n <= size - from;
        }

        long row(int i) {
            return has(i) ? fields[i] & ROW_MASK : 0L;
        }

        int parity(int i) {
            return has(i) ? (int) (fields[i] >>> PARITY_SHIFT) : 0;
        }

        int sample(int i, int k) {
            return sampleOf(row(i), k);
        }

        void putSample(int i, int k, int v) {
            if (has(i)) {
                fields[i] = withSample(fields[i], k, v);
            }
        }

        void carryFrames(Frames frames, Rules rules, int c, int from, int first) {
            size = 0;
            int place = from;
            int parity = first;
            for (int f = 0; f < frames.size(); f++) {
                int number = rules.number(c, place);
                for (int j = 0; j < number; j++) {
                    addField(frames.row(f, parity), parity);
                    parity = 1 - parity;
                }
                place = rules.hasPlace(c, place + 1) ? place + 1 : 0;
            }
        }

        private void addField(long row, int parity) {
            if (size < MOST_FIELDS) {
                fields[size] = row | ((long) parity << PARITY_SHIFT);
                size++;
            }
        }

        void removeSpan(int from, int n) {
            if (hasSpan(from, n)) {
                System.arraycopy(fields, from + n, fields, from, size - from - n);
                size -= n;
            }
        }

        void repeatSpan(int from, int n) {
            if (hasSpan(from, n) && n <= MOST_FIELDS - size) {
                System.arraycopy(fields, from, fields, from + n, size - from);
                size += n;
            }
        }

        /* How many samples changed. */
        int disturb(int seed, int m, int width) {
            int range = 2 * m + 1;
            if (range <= 0) {
                return 0;
            }
            int x = seed;
            int changed = 0;
            for (int i = 0; i < size; i++) {
                for (int k = 0; k < width; k++) {
                    x = 1664525 * x + 1013904223;
                    int before = sample(i, k);
                    int moved = before + (x >>> 8) % range - m;
                    int after = Math.max(0, Math.min(MOST_SAMPLE, moved));
                    putSample(i, k, after);
                    changed += after != before ? 1 : 0;
                }
            }
            return changed;
        }

        boolean isSame(Reel other) {
            if (size != other.size) {
                return false;
            }
            for (int i = 0; i < size; i++) {
                if (fields[i] != other.fields[i]) {
                    return false;
                }
            }
            return true;
        }
    }

    /** The fields as they were ahead of the latest acts, in a ring of twelve. */
    private static final class History {
        private final long[] rows = new long[MOST_ACTS * MOST_FIELDS];
        private final int[] sizes = new int[MOST_ACTS];
        private int next = 0;
        private int size = 0;

        int size() {
            return size;
        }

        void empty() {
            size = 0;
        }

        void keep(Reel reel) {
            System.arraycopy(reel.fields, 0, rows, next * MOST_FIELDS, reel.size);
            sizes[next] = reel.size;
            next = next + 1 < MOST_ACTS ? next + 1 : 0;
            size = Math.min(size + 1, MOST_ACTS);
        }

        void giveBack(Reel reel) {
            if (size == 0) {
                return;
            }
            next = next > 0 ? next - 1 : MOST_ACTS - 1;
            size--;
            reel.size = sizes[next];
            System.arraycopy(rows, next * MOST_FIELDS, reel.fields, 0, reel.size);
        }
    }

    /**
     * All places, steps and seens that a field can have by one cadence. They are numbered
     * by place, then step, then seen, so the lesser number is the one that goes first.
     */
    private static final class States {
        private final int[] places = new int[MOST_STATES];
        private final int[] steps = new int[MOST_STATES];
        private final int[] seens = new int[MOST_STATES];
        private final int[] nexts = new int[MOST_STATES];
        private int size = 0;

        int size() {
            return size;
        }

        int place(int s) {
            return has(s) ? places[s] : 0;
        }

        int step(int s) {
            return has(s) ? steps[s] : 0;
        }

        int seen(int s) {
            return has(s) ? seens[s] : 0;
        }

        /* What a field comes to that goes on from s. */
        int next(int s) {
            return has(s) ? nexts[s] : 0;
        }

        private boolean has(int s) {
            return s >= 0 && s < size;
        }

        void build(Rules rules, int c) {
            size = 0;
            int length = rules.length(c);
            for (int place = 0; place < length; place++) {
                addPlace(place, rules.number(c, place), place + 1 < length);
            }
        }

        private void addPlace(int place, int number, boolean hasFurther) {
            int base = size;
            int behind = hasFurther ? base + firstOfStep(number) : 0;
            for (int step = 0; step < number; step++) {
                for (int seen = 0; seen <= step; seen++) {
                    int onward = base + firstOfStep(step + 1) + seen + 1;
                    addState(place, step, seen, step + 1 < number ? onward : behind);
                }
            }
        }

        private void addState(int place, int step, int seen, int next) {
            if (size < MOST_STATES) {
                places[size] = place;
                steps[size] = step;
                seens[size] = seen;
                nexts[size] = next;
                size++;
            }
        }

        /* How many states of one place are ahead of this step. */
        private static int firstOfStep(int step) {
            return step * (step + 1) / 2;
        }
    }

    /**
     * Finds the path from the last field back to the first. A weight is a cost and, below
     * it, the edits, so that one comparison asks for the least cost and then the fewest edits.
     */
    private static final class Finder {
        private static final int COST = 128;

        private final States states = new States();
        private final int[] now = new int[MOST_STATES];
        private final int[] later = new int[MOST_STATES];
        /* Two longs a field: a bit for each state from which the next field goes on. */
        private final long[] goings = new long[2 * MOST_FIELDS];
        /* Of each field, where an edit there comes to. */
        private final int[] entries = new int[MOST_FIELDS];
        private int best = 0;

        private final boolean[] measured = new boolean[MOST_CADENCES];
        private final int[] costs = new int[MOST_CADENCES];
        private final int[] firstPlaces = new int[MOST_CADENCES];
        private final int[] firstSteps = new int[MOST_CADENCES];

        States states() {
            return states;
        }

        void forget() {
            for (int c = 0; c < MOST_CADENCES; c++) {
                measured[c] = false;
            }
        }

        int costBy(Reel reel, Rules rules, int c) {
            if (c < 0 || c >= MOST_CADENCES) {
                return 0;
            }
            if (!measured[c]) {
                solve(reel, rules, c);
            }
            return costs[c];
        }

        int firstPlace(int c) {
            return c >= 0 && c < MOST_CADENCES ? firstPlaces[c] : 0;
        }

        int firstStep(int c) {
            return c >= 0 && c < MOST_CADENCES ? firstSteps[c] : 0;
        }

        int entry(int i) {
            return i >= 0 && i < MOST_FIELDS ? entries[i] : 0;
        }

        boolean goesOn(int i, int s) {
            if (i < 0 || i >= MOST_FIELDS || s < 0 || s >= MOST_STATES) {
                return false;
            }
            return ((goings[2 * i + (s >> 6)] >>> (s & 63)) & 1L) != 0L;
        }

        void solve(Reel reel, Rules rules, int c) {
            states.build(rules, c);
            best = 0;
            for (int i = reel.size() - 1; i >= 0; i--) {
                weighStates(reel, rules, i);
                entries[i] = leastEntry();
                best = now[entries[i]];
                System.arraycopy(now, 0, later, 0, MOST_STATES);
            }
            if (c >= 0 && c < MOST_CADENCES) {
                measured[c] = true;
                costs[c] = best / COST;
                firstPlaces[c] = states.place(entries[0]);
                firstSteps[c] = states.step(entries[0]);
            }
        }

        /*
         * The weight of all that comes from field i on, by the state that it has. An edit to
         * what it would go on to weighs more than going on, so it is never taken.
         */
        private void weighStates(Reel reel, Rules rules, int i) {
            boolean isLast = i + 1 >= reel.size();
            boolean turns = !isLast && reel.parity(i) != reel.parity(i + 1);
            int fresh = COST * rules.costOfFresh(reel, i);
            int repeat = COST * rules.costOfRepeat(reel, i);
            int byEdit = isLast ? 0 : best + COST * rules.value(EDIT) + 1;
            goings[2 * i] = 0L;
            goings[2 * i + 1] = 0L;
            for (int s = 0; s < states.size(); s++) {
                int rest = byEdit;
                if (turns && isBetterOn(states.next(s), byEdit, i + 1)) {
                    rest = later[states.next(s)];
                    goings[2 * i + (s >> 6)] |= 1L << (s & 63);
                }
                now[s] = rest + (states.seen(s) < 2 ? fresh : repeat);
            }
        }

        private boolean isBetterOn(int next, int byEdit, int following) {
            if (next < 0 || next >= MOST_STATES) {
                return false;
            }
            int byGoing = later[next];
            return byGoing < byEdit || byGoing == byEdit && next < entry(following);
        }

        private int leastEntry() {
            int least = 0;
            for (int s = 1; s < states.size(); s++) {
                if (states.seen(s) == 0 && now[s] < now[least]) {
                    least = s;
                }
            }
            return least;
        }
    }

    /** The path: what it gives each field. */
    private static final class Track {
        private final int[] places = new int[MOST_FIELDS];
        private final int[] steps = new int[MOST_FIELDS];
        private final int[] seens = new int[MOST_FIELDS];
        private final boolean[] edited = new boolean[MOST_FIELDS];
        private final int[] prices = new int[MOST_FIELDS];
        private final int[] editFields = new int[MOST_FIELDS];
        private int size = 0;
        private int edits = 0;
        private int dropped = 0;
        private int total = 0;

        void follow(Finder finder, Reel reel, Rules rules) {
            size = 0;
            edits = 0;
            dropped = 0;
            total = 0;
            int state = finder.entry(0);
            for (int i = 0; i < reel.size(); i++) {
                boolean isEdit = i > 0 && !finder.goesOn(i - 1, state);
                if (isEdit) {
                    state = finder.entry(i);
                } else if (i > 0) {
                    state = finder.states().next(state);
                }
                addField(finder.states(), state, isEdit);
                putPrice(reel, rules, i);
            }
        }

        private void addField(States states, int state, boolean isEdit) {
            if (size >= MOST_FIELDS) {
                return;
            }
            places[size] = states.place(state);
            steps[size] = states.step(state);
            seens[size] = states.seen(state);
            edited[size] = isEdit;
            if (isEdit) {
                editFields[edits] = size;
                edits++;
            }
            size++;
        }

        private void putPrice(Reel reel, Rules rules, int i) {
            if (!has(i)) {
                return;
            }
            int price = isKept(i) ? rules.costOfFresh(reel, i) : rules.costOfRepeat(reel, i);
            if (edited[i]) {
                price += rules.value(EDIT);
            }
            prices[i] = price;
            total += price;
            dropped += isKept(i) ? 0 : 1;
        }

        private boolean has(int i) {
            return i >= 0 && i < size;
        }

        int place(int i) {
            return has(i) ? places[i] : NONE;
        }

        int step(int i) {
            return has(i) ? steps[i] : NONE;
        }

        int seen(int i) {
            return has(i) ? seens[i] : NONE;
        }

        boolean isEdit(int i) {
            return has(i) && edited[i];
        }

        int price(int i) {
            return has(i) ? prices[i] : NONE;
        }

        /* Parities alternate within a group, so its first two fields are the first of each. */
        boolean isKept(int i) {
            return has(i) && seens[i] < 2;
        }

        int fieldOfEdit(int i) {
            return i >= 0 && i < edits ? editFields[i] : NONE;
        }

        int edits() {
            return edits;
        }

        int dropped() {
            return dropped;
        }

        int total() {
            return total;
        }
    }

    /** The groups of the path, which of them are mated, and the frames that come of them. */
    private static final class Groups {
        private final int[] groupsOf = new int[MOST_FIELDS];
        private final int[] starts = new int[MOST_FIELDS];
        private final int[] lengths = new int[MOST_FIELDS];
        private final int[] mates = new int[MOST_FIELDS];
        private final int[] framesOf = new int[MOST_FIELDS];
        private final Frames frames = new Frames(MOST_FIELDS);
        private int size = 0;
        private int orphans = 0;
        private int pairs = 0;

        void gather(Track track, Reel reel, Rules rules) {
            size = 0;
            for (int i = 0; i < reel.size(); i++) {
                addField(i, track.seen(i) == 0);
            }
            mateOrphans(reel, rules);
            rebuildFrames(reel);
        }

        private void addField(int i, boolean isFirst) {
            if (i < 0 || i >= MOST_FIELDS) {
                return;
            }
            if (size < MOST_FIELDS && (isFirst || size == 0)) {
                starts[size] = i;
                lengths[size] = 0;
                mates[size] = NONE;
                size++;
            }
            groupsOf[i] = size - 1;
            lengths[size - 1]++;
        }

        private void mateOrphans(Reel reel, Rules rules) {
            orphans = 0;
            pairs = 0;
            for (int g = 0; g < size; g++) {
                orphans += isOrphan(g) ? 1 : 0;
                if (canMate(g, reel, rules)) {
                    mates[g] = g + 1;
                    mates[g + 1] = g;
                    pairs++;
                }
            }
        }

        private boolean canMate(int g, Reel reel, Rules rules) {
            if (!isOrphan(g) || mates[g] != NONE || !isOrphan(g + 1)) {
                return false;
            }
            int i = starts[g];
            int j = starts[g + 1];
            return reel.parity(i) != reel.parity(j)
                && rules.distance(reel.row(i), reel.row(j)) <= rules.value(MATE);
        }

        private void rebuildFrames(Reel reel) {
            frames.begin(0);
            for (int g = 0; g < size; g++) {
                boolean isSecondMate = g > 0 && mates[g] == g - 1;
                if (!isSecondMate) {
                    addFrame(reel, starts[g], partner(g));
                }
                framesOf[g] = frames.size() - 1;
            }
        }

        /* The other field that is kept for the frame of group g; an orphan has itself alone. */
        private int partner(int g) {
            if (!isOrphan(g)) {
                return starts[g] + 1;
            }
            return has(mates[g]) ? starts[mates[g]] : starts[g];
        }

        private void addFrame(Reel reel, int i, int j) {
            if (reel.parity(i) == 0) {
                frames.add(reel.row(i), reel.row(j));
            } else {
                frames.add(reel.row(j), reel.row(i));
            }
        }

        boolean has(int g) {
            return g >= 0 && g < size;
        }

        int size() {
            return size;
        }

        int orphans() {
            return orphans;
        }

        int pairs() {
            return pairs;
        }

        Frames frames() {
            return frames;
        }

        int groupOf(int i) {
            return i >= 0 && i < MOST_FIELDS ? groupsOf[i] : NONE;
        }

        int frameOf(int g) {
            return has(g) ? framesOf[g] : NONE;
        }

        int start(int g) {
            return has(g) ? starts[g] : NONE;
        }

        int length(int g) {
            return has(g) ? lengths[g] : 0;
        }

        /* Parities alternate within a group: only a single field has one parity alone. */
        boolean isOrphan(int g) {
            return has(g) && lengths[g] == 1;
        }

        int mateOf(int g) {
            return has(g) ? mates[g] : NONE;
        }
    }
}
