/** Each promise of the document by hand: ordinary inputs, edges, wrong inputs. */
public final class PromiseTest {
    private static final int NONE = CadenceDesk.NONE;
    private static final int FAR = Integer.MAX_VALUE;
    private static final int LOW = Integer.MIN_VALUE;

    private static final String FILM =
        "width 2;frame 1 2 3 4;frame 10 20 30 40;frame 50 60 70 80;frame 90 91 92 93;";

    /** Carried by the second cadence and tracked by the first, it takes an edit at the third frame. */
    private static final String PARTED_FILM = "width 1;frame 1 2;frame 60 61;frame 5 8;frame 99 98;";
    private static final String PARTED_RULES = "cadence 2 3;cadence 3 2 2;mate 3;";

    private final Check check = new Check("PromiseTest");

    public static void main(String[] args) {
        PromiseTest test = new PromiseTest();
        test.check.runPromises(test);
    }

    private void due(String call, long got, long want) {
        check.due(call, got, want);
    }

    private static CadenceDesk told(String film) {
        CadenceDesk desk = new CadenceDesk();
        Check.film(desk, film);
        return desk;
    }

    private static CadenceDesk carried() {
        CadenceDesk desk = told(FILM);
        desk.carry(0, 0);
        return desk;
    }

    private static CadenceDesk parted(String rules) {
        CadenceDesk desk = told(PARTED_FILM);
        Check.rules(desk, rules);
        desk.force(1);
        desk.carry(0, 0);
        desk.force(0);
        return desk;
    }

    private void dueFilm(String text, int want) {
        due("film of " + text, Check.film(new CadenceDesk(), text), want);
    }

    private void dueRules(String text, int want) {
        due("rules of " + text, Check.rules(new CadenceDesk(), text), want);
    }

    private void dueFields(String when, CadenceDesk desk, int... firstSamples) {
        due(when + ": count(2)", desk.count(2), firstSamples.length);
        for (int i = 0; i < firstSamples.length; i++) {
            due(when + ": field(" + i + ", 0)", Check.fieldOf(desk, i, 0), firstSamples[i]);
        }
    }

    // ---- 1
    void p01_newObject() {
        CadenceDesk desk = new CadenceDesk();
        int[] counts = {0, 0, 0, 1, 0, 0, 40, 10, 0, 0, 0, 0};
        for (int what = 0; what < counts.length; what++) {
            due("new: count(" + what + ")", desk.count(what), counts[what]);
        }
        due("new: cadence(0, -1)", desk.cadence(0, NONE), 2);
        due("new: cadence(0, 0)", desk.cadence(0, 0), 2);
        due("new: cadence(0, 1)", desk.cadence(0, 1), 3);
        due("new: frame", desk.frame(0, 0, 0), NONE);
        due("new: field", Check.fieldOf(desk, 0, NONE), Check.THROWS);
        for (int what = 0; what < 7; what++) {
            due("new: all(" + what + ")", desk.all(what), 0);
        }
        due("NONE", CadenceDesk.NONE, -1);
    }

    // ---- 2
    void p02_feed() {
        CadenceDesk desk = new CadenceDesk();
        for (int i = 1; i <= 45; i++) {
            due("feed " + i, desk.feed(1, 2, 3, 4, 5), 20 * i);
        }
        due("feed beyond 900", desk.feed(1, 2, 3, 4, 5), NONE);
        due("tape is as it was", desk.count(11), 900);
        due("a byte of 0 is no token", desk.film(900), Check.fault(0, 1));
        due("the tape is empty then", desk.count(11), 0);
        due("feed", desk.feed(0x77696474, 0x6820323B, 0x6672616D, 0x65203120, 0x32203320), 20);
        due("feed", desk.feed(0x343B2020, -1, LOW, FAR, 0), 40);
        due("film of fed bytes", desk.film(22), 1);
        due("frame(0, 0, 1)", desk.frame(0, 0, 1), 2);
        due("frame(0, 1, 1)", desk.frame(0, 1, 1), 4);
        String blanks = " ".repeat(871);
        due("900 bytes with a film at their end", Check.film(desk, blanks + "width 1;frame 1 2;frame 3 4;\n"), 2);
    }

    // ---- 3
    void p03_film() {
        dueFilm(FILM, 4);
        dueFilm("width 1;frame 1 2;", 1);
        dueFilm("width1;frame1 2;", 1);
        dueFilm("\n width\n1 ;\n\nframe 0001 0099 ;  \n", 1);
        dueFilm("width 6;frame 1 2 3 4 5 6 7 8 9 10 11 12;", 1);
        dueFilm("width 1;" + "frame 1 2;".repeat(20), 20);
        CadenceDesk desk = new CadenceDesk();
        Check.feed(desk, "width 1;frame 1 23;frame 3 4;");
        due("film(-1)", desk.film(-1), NONE);
        due("film(least)", desk.film(LOW), NONE);
        due("film(41)", desk.film(41), NONE);
        due("film(most)", desk.film(FAR), NONE);
        due("tape stays", desk.count(11), 40);
        due("film(19)", desk.film(19), 1);
        due("tape is empty", desk.count(11), 0);
        due("film(0)", desk.film(0), Check.fault(0, 1));
        Check.feed(desk, "width 1;frame 1 23;frame 3 4;");
        due("film(17) ends ahead of ;", desk.film(17), Check.fault(17, 1));
        due("film(1) of an empty tape", desk.film(1), NONE);
    }

    void p03_filmFaults() {
        dueFilm("", Check.fault(0, 1));
        dueFilm("   ", Check.fault(3, 1));
        dueFilm("Width 1;", Check.fault(0, 1));
        dueFilm("widths 1;", Check.fault(0, 1));
        dueFilm("widtha 1;", Check.fault(0, 1));
        dueFilm("widthz 1;", Check.fault(0, 1));
        dueFilm("width{1;", Check.fault(5, 1));
        dueFilm("width`1;", Check.fault(5, 1));
        dueFilm("width/1;", Check.fault(5, 1));
        dueFilm("width:1;", Check.fault(5, 1));
        dueFilm("wid th 1;", Check.fault(0, 1));
        dueFilm("frame 1 2;", Check.fault(0, 1));
        dueFilm("width", Check.fault(5, 1));
        dueFilm("width ;", Check.fault(6, 1));
        dueFilm("width x;", Check.fault(6, 1));
        dueFilm("width 0;", Check.fault(6, 2));
        dueFilm("width 7;", Check.fault(6, 2));
        dueFilm("width 9999;", Check.fault(6, 2));
        dueFilm("width 00001;", Check.fault(6, 1));
        dueFilm("width 1 frame", Check.fault(8, 1));
        dueFilm("width 1;", Check.fault(8, 1));
        dueFilm("width 1;;", Check.fault(8, 1));
        dueFilm("width 1;width 1;", Check.fault(8, 1));
        dueFilm("width 1;frame;", Check.fault(13, 1));
        dueFilm("width 1;frame 1;", Check.fault(15, 1));
        dueFilm("width 1;frame 1 2", Check.fault(17, 1));
        dueFilm("width 1;frame 1 2  ", Check.fault(19, 1));
        dueFilm("width 1;frame 1 2 3;", Check.fault(18, 1));
        dueFilm("width 1;frame 1 100;", Check.fault(16, 2));
        dueFilm("width 1;frame 1 12345;", Check.fault(16, 1));
        dueFilm("width 1;frame 1 -2;", Check.fault(16, 1));
        dueFilm("width 1;frame 1 2;\t", Check.fault(18, 1));
        dueFilm("width 1;frame 1 2;\r\n", Check.fault(18, 1));
        dueFilm("width 1;frame 1 2;" + (char) 233, Check.fault(18, 1));
        dueFilm("width 1;frame 1 2;x", Check.fault(18, 1));
        dueFilm("width 1;frame 100 !;", Check.fault(14, 2));
        dueFilm("width 1;" + "frame 1 2;".repeat(21), Check.fault(208, 4));
        dueFilm("width 1;" + "frame 1 2;".repeat(20) + "frame !", Check.fault(208, 4));
        dueFilm("width 1;" + "frame 1 2;".repeat(20) + "fram", Check.fault(208, 1));
    }

    void p03_filmStays() {
        CadenceDesk desk = carried();
        Check.rules(desk, "cadence 2 3;cadence 2;slack 4;");
        desk.force(1);
        desk.cut(0, 1);
        due("a fault", Check.film(desk, "width 1;frame 1 2;frame 1;"), Check.fault(25, 1));
        due("width stays", desk.count(0), 2);
        due("frames stay", desk.count(1), 4);
        due("a sample stays", desk.frame(3, 1, 1), 93);
        due("fields stay", desk.count(2), 9);
        due("acts stay", desk.count(10), 1);
        due("a film", Check.film(desk, "width 1;frame 1 2;"), 1);
        due("width", desk.count(0), 1);
        due("no fields then", desk.count(2), 0);
        due("no acts then", desk.count(10), 0);
        due("undo()", desk.undo(), NONE);
        due("the force stays", desk.count(4), 1);
        due("the rules stay", desk.count(5), 4);
        due("no path then", desk.all(2), 0);
    }

    // ---- 4
    void p04_rules() {
        dueRules("cadence 2 3 4 5 2 3;", 1);
        dueRules("cadence 2;cadence 3;cadence 4;cadence 5;", 4);
        dueRules("edit 1;cadence 2;still 1;cadence 3;slack 1;cadence 4;mate 1;measure sum;cadence 5;", 4);
        CadenceDesk desk = carried();
        Check.rules(desk, "cadence 2;cadence 3 3;");
        desk.force(1);
        desk.cut(0, 2);
        due("rules", Check.rules(desk, "measure many;\nmate 7;still 0;edit 999;slack 3;cadence 5 4;"), 1);
        int[] counts = {2, 4, 8, 1, 0, 3, 999, 0, 7, 2, 0, 0};
        for (int what = 0; what < counts.length; what++) {
            due("rules told: count(" + what + ")", desk.count(what), counts[what]);
        }
        due("cadence(0, 0)", desk.cadence(0, 0), 5);
        due("cadence(0, 1)", desk.cadence(0, 1), 4);
        due("undo()", desk.undo(), NONE);
        due("what is not told", Check.rules(desk, "cadence 2;"), 1);
        int[] first = {0, 40, 10, 0, 0};
        for (int i = 0; i < first.length; i++) {
            due("not told: count(" + (5 + i) + ")", desk.count(5 + i), first[i]);
        }
        Check.feed(desk, "cadence 2;");
        due("rules(-1)", desk.rules(-1), NONE);
        due("rules(21)", desk.rules(21), NONE);
        due("tape stays", desk.count(11), 20);
        desk.carry(0, 1);
        due("a fault", desk.rules(9), Check.fault(9, 1));
        due("tape is empty", desk.count(11), 0);
        due("acts stay", desk.count(10), 1);
        due("measure sum", Check.rules(desk, "measure sum;cadence 2;"), 1);
        due("count(9)", desk.count(9), 0);
        due("measure most", Check.rules(desk, "measure most;cadence 2;"), 1);
        due("count(9)", desk.count(9), 1);
    }

    void p04_rulesFaults() {
        dueRules("", Check.fault(0, 1));
        dueRules("slack 3;", Check.fault(8, 1));
        dueRules("slack 3; \n", Check.fault(10, 1));
        dueRules(";", Check.fault(0, 1));
        dueRules("pace 3;", Check.fault(0, 1));
        dueRules("3;", Check.fault(0, 1));
        dueRules("cadence", Check.fault(7, 1));
        dueRules("cadence ;", Check.fault(8, 1));
        dueRules("cadence 2", Check.fault(9, 1));
        dueRules("cadence 1;", Check.fault(8, 2));
        dueRules("cadence 6;", Check.fault(8, 2));
        dueRules("cadence 2 x;", Check.fault(10, 1));
        dueRules("cadence 2 2 2 2 2 2 2;", Check.fault(20, 4));
        dueRules("cadence 2 2 2 2 2 2 9;", Check.fault(20, 2));
        dueRules("cadence 2 2 2 2 2 2 12345;", Check.fault(20, 1));
        dueRules("cadence 2 2 2 2 2 2 slack", Check.fault(20, 1));
        dueRules("cadence 2;".repeat(5), Check.fault(40, 4));
        dueRules("cadence 2;".repeat(4) + "cadence !", Check.fault(40, 4));
        for (String word : new String[] {"slack", "edit", "still", "mate"}) {
            int n = word.length();
            dueRules(word + " 1000;", Check.fault(n + 1, 2));
            dueRules(word + " 10000;", Check.fault(n + 1, 1));
            dueRules(word + " sum;", Check.fault(n + 1, 1));
            dueRules(word + ";", Check.fault(n, 1));
            dueRules(word + " 1 2;", Check.fault(n + 3, 1));
            dueRules(word + " 999;cadence 2;", 1);
            dueRules("cadence 2;" + word + " 1;" + word + " 2;", Check.fault(13 + n, 3));
            dueRules("cadence 2;" + word + " 1;" + word + " !", Check.fault(13 + n, 3));
        }
        dueRules("measure few;", Check.fault(8, 1));
        dueRules("measure 1;", Check.fault(8, 1));
        dueRules("measure;", Check.fault(7, 1));
        dueRules("measure sum most;", Check.fault(12, 1));
        dueRules("measure sum;measure sum;cadence 2;", Check.fault(12, 3));
    }

    // ---- 5
    void p05_frame() {
        CadenceDesk desk = told(FILM);
        int[][] frames = {{1, 2, 3, 4}, {10, 20, 30, 40}, {50, 60, 70, 80}, {90, 91, 92, 93}};
        for (int f = 0; f < 4; f++) {
            for (int j = 0; j < 4; j++) {
                due("frame(" + f + ")", desk.frame(f, j / 2, j % 2), frames[f][j]);
            }
        }
        due("frame(4)", desk.frame(4, 0, 0), NONE);
        due("frame(-1)", desk.frame(-1, 0, 0), NONE);
        due("parity 2", desk.frame(0, 2, 0), NONE);
        due("parity -1", desk.frame(0, -1, 0), NONE);
        due("sample 2", desk.frame(0, 0, 2), NONE);
        due("sample -1", desk.frame(0, 0, -1), NONE);
        due("far", desk.frame(FAR, LOW, FAR), NONE);
        CadenceDesk wide = told("width 6;frame 1 2 3 4 5 99 7 8 9 10 11 12;");
        due("sample 5", wide.frame(0, 0, 5), 99);
        due("sample 5 of bottom", wide.frame(0, 1, 5), 12);
        due("sample 6", wide.frame(0, 0, 6), NONE);
    }

    // ---- 6
    void p06_cadence() {
        CadenceDesk desk = new CadenceDesk();
        Check.rules(desk, "cadence 2 3 4 5 2 3;cadence 4;");
        due("cadence(0, -1)", desk.cadence(0, NONE), 6);
        due("cadence(0, 5)", desk.cadence(0, 5), 3);
        due("cadence(0, 6)", desk.cadence(0, 6), NONE);
        due("cadence(1, -1)", desk.cadence(1, NONE), 1);
        due("cadence(1, 0)", desk.cadence(1, 0), 4);
        due("cadence(1, 1)", desk.cadence(1, 1), NONE);
        due("cadence(1, -2)", desk.cadence(1, -2), NONE);
        due("cadence(2, -1)", desk.cadence(2, NONE), NONE);
        due("cadence(-1, 0)", desk.cadence(-1, 0), NONE);
        due("cadence far", desk.cadence(FAR, FAR), NONE);
    }

    // ---- 7
    void p07_force() {
        CadenceDesk desk = told(FILM);
        Check.rules(desk, "cadence 2;cadence 3;");
        due("force(1)", desk.force(1), 0);
        due("force(1)", desk.force(1), 1);
        due("force(2)", desk.force(2), NONE);
        due("force(-1)", desk.force(-1), NONE);
        due("in force", desk.count(4), 1);
        due("carried by it", desk.carry(0, 0), 12);
        due("path by it", desk.all(0), 0);
        due("force(0)", desk.force(0), 1);
        due("path by the other", desk.all(0) > 0 ? 1 : 0, 1);
        due("no act", desk.count(10), 1);
    }

    // ---- 8
    void p08_carry() {
        CadenceDesk desk = new CadenceDesk();
        due("no film", desk.carry(0, 0), NONE);
        Check.film(desk, FILM);
        due("place 2", desk.carry(2, 0), NONE);
        due("place -1", desk.carry(-1, 0), NONE);
        due("parity 2", desk.carry(0, 2), NONE);
        due("parity -1", desk.carry(0, -1), NONE);
        due("no act", desk.count(10), 0);
        due("carry(0, 0)", desk.carry(0, 0), 10);
        dueFields("carry(0, 0)", desk, 1, 3, 10, 30, 10, 70, 50, 92, 90, 92);
        due("carry(1, 1)", desk.carry(1, 1), 10);
        dueFields("carry(1, 1)", desk, 3, 1, 3, 10, 30, 50, 70, 50, 92, 90);
        for (int i = 0; i < 10; i++) {
            due("parity of " + i, Check.fieldOf(desk, i, NONE), (i + 1) % 2);
        }
        Check.rules(desk, "cadence 5;");
        Check.film(desk, "width 1;" + "frame 1 2;".repeat(18) + "frame 3 4;frame 5 6;");
        due("at most 90", desk.carry(0, 0), 90);
        due("the last one", Check.fieldOf(desk, 89, 0), 2);
        Check.rules(desk, "cadence 5 4;");
        due("left out", desk.carry(0, 0), 90);
        due("the last one", Check.fieldOf(desk, 89, 0), 6);
    }

    // ---- 9
    void p09_cut() {
        CadenceDesk desk = carried();
        due("cut(3, 2)", desk.cut(3, 2), 8);
        dueFields("cut", desk, 1, 3, 10, 70, 50, 92, 90, 92);
        due("cut(0, 0)", desk.cut(0, 0), NONE);
        due("cut(0, -1)", desk.cut(0, -1), NONE);
        due("cut(-1, 2)", desk.cut(-1, 2), NONE);
        due("cut(8, 1)", desk.cut(8, 1), NONE);
        due("cut(7, 2)", desk.cut(7, 2), NONE);
        due("cut(1, far)", desk.cut(1, FAR), NONE);
        due("cut(far, far)", desk.cut(FAR, FAR), NONE);
        due("cut(low, low)", desk.cut(LOW, LOW), NONE);
        due("acts", desk.count(10), 2);
        due("cut(7, 1)", desk.cut(7, 1), 7);
        due("cut(0, 7)", desk.cut(0, 7), 0);
        due("cut of none", desk.cut(0, 1), NONE);
        due("undo()", desk.undo(), 3);
        dueFields("undone", desk, 1, 3, 10, 70, 50, 92, 90);
    }

    // ---- 10
    void p10_doubled() {
        CadenceDesk desk = carried();
        due("doubled(1, 2)", desk.doubled(1, 2), 12);
        dueFields("doubled", desk, 1, 3, 10, 3, 10, 30, 10, 70, 50, 92, 90, 92);
        due("its parity", Check.fieldOf(desk, 3, NONE), 1);
        due("doubled(0, 0)", desk.doubled(0, 0), NONE);
        due("doubled(-1, 1)", desk.doubled(-1, 1), NONE);
        due("doubled(12, 1)", desk.doubled(12, 1), NONE);
        due("doubled(11, 2)", desk.doubled(11, 2), NONE);
        due("doubled(1, far)", desk.doubled(1, FAR), NONE);
        due("doubled(11, 1)", desk.doubled(11, 1), 13);
        due("doubled(0, 13)", desk.doubled(0, 13), 26);
        due("doubled(0, 26)", desk.doubled(0, 26), 52);
        due("to 91", desk.doubled(0, 39), NONE);
        due("nothing happens", desk.count(2), 52);
        due("acts", desk.count(10), 5);
        due("to 90", desk.doubled(0, 38), 90);
        due("beyond 90", desk.doubled(89, 1), NONE);
        due("the last one", Check.fieldOf(desk, 89, 0), 92);
    }

    // ---- 11
    void p11_noise() {
        CadenceDesk desk = told(FILM);
        due("no fields", desk.noise(1, 1), NONE);
        desk.carry(0, 0);
        due("m 0", desk.noise(1, 0), NONE);
        due("m 10", desk.noise(1, 10), NONE);
        due("m -1", desk.noise(1, -1), NONE);
        due("m far", desk.noise(1, FAR), NONE);
        due("no act", desk.count(10), 1);
        int[] before = new int[20];
        for (int j = 0; j < 20; j++) {
            before[j] = Check.fieldOf(desk, j / 2, j % 2);
        }
        int changed = desk.noise(-77, 9);
        long x = -77L & 0xFFFFFFFFL;
        int differ = 0;
        for (int j = 0; j < 20; j++) {
            x = (x * 1664525L + 1013904223L) & 0xFFFFFFFFL;
            long moved = before[j] + (x >> 8) % 19 - 9;
            long want = moved < 0 ? 0 : moved > 99 ? 99 : moved;
            due("noisy sample " + j, Check.fieldOf(desk, j / 2, j % 2), want);
            differ += want == before[j] ? 0 : 1;
        }
        due("changed", changed, differ);
        due("an act", desk.count(10), 2);
        due("parity stays", Check.fieldOf(desk, 1, NONE), 1);
        // Of seed 0 the first draw of 3 is 2 (0x3C6EF3 modulo 3), which is one more.
        CadenceDesk bright = told("width 1;frame 99 50;");
        bright.carry(0, 0);
        bright.cut(1, 1);
        due("99 stays", bright.noise(0, 1), 0);
        due("99", Check.fieldOf(bright, 0, 0), 99);
        due("an act, too", bright.count(10), 3);
        bright.set(0, 0, 98);
        due("98 changes", bright.noise(0, 1), 1);
        due("99", Check.fieldOf(bright, 0, 0), 99);
    }

    // ---- 12
    void p12_set() {
        CadenceDesk desk = carried();
        due("set(4, 1, 99)", desk.set(4, 1, 99), 20);
        due("it is", Check.fieldOf(desk, 4, 1), 99);
        due("its neighbour stays", Check.fieldOf(desk, 4, 0), 10);
        due("its parity stays", Check.fieldOf(desk, 4, NONE), 0);
        due("the film stays", desk.frame(1, 0, 1), 20);
        due("other fields stay", Check.fieldOf(desk, 2, 1), 20);
        due("set(4, 1, 0)", desk.set(4, 1, 0), 99);
        due("v 100", desk.set(4, 1, 100), NONE);
        due("v -1", desk.set(4, 1, -1), NONE);
        due("k 2", desk.set(4, 2, 1), NONE);
        due("k -1", desk.set(4, -1, 1), NONE);
        due("field 10", desk.set(10, 0, 1), NONE);
        due("field -1", desk.set(-1, 0, 1), NONE);
        due("acts", desk.count(10), 3);
        due("the same", desk.set(4, 1, 0), 0);
        due("an act, too", desk.count(10), 4);
    }

    // ---- 13
    void p13_undo() {
        CadenceDesk desk = carried();
        due("undo()", desk.undo(), 0);
        due("no fields", desk.count(2), 0);
        due("undo()", desk.undo(), NONE);
        desk.carry(0, 0);
        for (int v = 1; v <= 13; v++) {
            desk.set(0, 0, v + 30);
            due("acts", desk.count(10), Math.min(12, v + 1));
        }
        for (int v = 12; v >= 1; v--) {
            due("undo()", desk.undo(), v - 1);
            due("the sample again", Check.fieldOf(desk, 0, 0), v + 30);
        }
        due("no more than 12", desk.undo(), NONE);
        due("it stays", Check.fieldOf(desk, 0, 0), 31);
        desk.noise(3, 9);
        desk.doubled(0, 3);
        desk.cut(5, 5);
        desk.carry(1, 1);
        due("undo a carry", desk.undo(), 3);
        due("fields", desk.count(2), 8);
        due("undo a cut", desk.undo(), 2);
        due("fields", desk.count(2), 13);
        due("undo a double", desk.undo(), 1);
        due("undo noise", desk.undo(), 0);
        dueFields("undone", desk, 31, 3, 10, 30, 10, 70, 50, 92, 90, 92);
        Check.rules(desk, "cadence 2;");
        desk.force(0);
        due("fields alone are undone", desk.undo(), NONE);
    }

    // ---- 14
    void p14_field() {
        CadenceDesk desk = carried();
        due("field(0, 0)", Check.fieldOf(desk, 0, 0), 1);
        due("field(9, 1)", Check.fieldOf(desk, 9, 1), 93);
        due("parity of 9", Check.fieldOf(desk, 9, NONE), 1);
        due("parity of 8", Check.fieldOf(desk, 8, NONE), 0);
        int[][] wrong = {{10, 0}, {-1, 0}, {10, NONE}, {-1, NONE}, {0, 2}, {0, -2}, {FAR, 0}, {LOW, 0}, {0, FAR}};
        for (int[] pair : wrong) {
            due("field(" + pair[0] + ", " + pair[1] + ")", Check.fieldOf(desk, pair[0], pair[1]), Check.THROWS);
        }
    }

    // ---- 15
    void p15_apart() {
        CadenceDesk desk = told("width 3;frame 1 50 7 9 40 7;");
        desk.carry(0, 0);
        due("sum", desk.apart(0, 1), 18);
        due("of itself", desk.apart(1, 1), 0);
        due("none such", desk.apart(0, 2), NONE);
        due("none such", desk.apart(2, 0), NONE);
        due("none such", desk.apart(-1, 0), NONE);
        Check.rules(desk, "cadence 2;measure most;");
        due("most", desk.apart(1, 0), 10);
        Check.rules(desk, "cadence 2;measure many;");
        due("many", desk.apart(0, 1), 2);
    }

    // ---- 16
    void p16_path() {
        CadenceDesk desk = parted(PARTED_RULES);
        int[][] rows = {
            {1, 0, 0, 0, 0, 0, 1, 0}, {1, 1, 1, 0, 0, 0, 1, 0}, {1, 2, 2, 0, 0, 0, 0, 0},
            {0, 0, 0, 0, 0, 1, 1, 1}, {0, 1, 1, 0, 0, 1, 1, 1},
            {0, 0, 0, 1, 40, 2, 1, 2}, {0, 1, 1, 0, 0, 2, 1, 2},
            {1, 0, 0, 0, 0, 3, 1, 3}, {1, 1, 1, 0, 0, 3, 1, 3}, {1, 2, 2, 0, 0, 3, 0, 3}};
        for (int i = 0; i < rows.length; i++) {
            for (int what = 0; what < 8; what++) {
                due("path(" + i + ", " + what + ")", desk.path(i, what), rows[i][what]);
            }
        }
        due("path(10, 0)", desk.path(10, 0), NONE);
        due("path(-1, 0)", desk.path(-1, 0), NONE);
        due("path(0, 8)", desk.path(0, 8), NONE);
        due("path(0, -1)", desk.path(0, -1), NONE);
        due("path far", desk.path(FAR, LOW), NONE);
        due("without fields", new CadenceDesk().path(0, 0), NONE);
    }

    void p16_pathCosts() {
        // By cadence 2 a third field alike stands still; by cadence 3 one that is not alike costs how far.
        CadenceDesk desk = told("width 1;frame 10 20;frame 13 50;");
        Check.rules(desk, "cadence 2;still 7;edit 999;");
        desk.carry(0, 0);
        due("nothing costs", desk.all(0), 0);
        desk.set(2, 0, 10);
        due("still", desk.path(2, 4), 7);
        due("together", desk.all(0), 7);
        desk.undo();
        Check.rules(desk, "cadence 2;still 7;edit 999;slack 3;");
        due("alike by slack", desk.path(2, 4), 7);
        Check.rules(desk, "cadence 2;still 7;edit 999;slack 2;");
        due("no more alike", desk.path(2, 4), 0);
        Check.rules(desk, "cadence 5;edit 999;slack 2;");
        due("any two steps ahead", desk.all(0), 0);
        desk.doubled(0, 4);
        // First two fields, then five, then one: of the five, the third to fifth cost 3, 30 and 3.
        due("together", desk.all(0), 36);
        Check.rules(desk, "cadence 5;edit 999;slack 3;");
        // The same, but 3 is alike now: spared within the five, standing still as their first.
        due("slack spares some, some stand still", desk.all(0), 40);
        Check.rules(desk, "cadence 5;edit 1;still 0;");
        due("edits are cheap", desk.all(0), 1);
    }

    void p16_pathTies() {
        CadenceDesk desk = told("width 1;frame 1 2;frame 30 40;");
        Check.rules(desk, "cadence 2 2;edit 0;still 0;");
        desk.carry(0, 0);
        due("fewest edits", desk.all(1), 0);
        due("least place", desk.path(0, 0), 0);
        due("least step", desk.path(0, 1), 0);
        desk.cut(1, 2);
        // A top field, then a bottom one: they go on though an edit costs nothing.
        due("goes on", desk.path(1, 3), 0);
        due("next step", desk.path(1, 1), 1);
        desk.undo();
        desk.cut(1, 1);
        // Two top fields: the second cannot go on, and comes to the least place and step.
        due("an edit", desk.path(1, 3), 1);
        due("least place", desk.path(1, 0), 0);
        due("least step", desk.path(1, 1), 0);
        // Behind a last step, too, a field of the same parity cannot go on.
        Check.rules(desk, "cadence 2;edit 0;");
        due("edits", desk.all(1), 1);
    }

    /** Six places of five steps: the most that a path can have to choose from. */
    void p16_longCadence() {
        StringBuilder film = new StringBuilder("width 1;");
        for (int f = 0; f < 18; f++) {
            film.append("frame ").append(5 * f).append(' ').append(5 * f + 3).append(';');
        }
        CadenceDesk desk = told(film.toString());
        Check.rules(desk, "cadence 5 5 5 5 5 4;edit 2;");
        due("carry(0, 0)", desk.carry(0, 0), 87);
        due("nothing costs", desk.all(0), 0);
        for (int i = 0; i < 87; i++) {
            int inRound = i % 29;
            due("path(" + i + ", 0)", desk.path(i, 0), inRound / 5);
            due("path(" + i + ", 1)", desk.path(i, 1), inRound % 5);
            due("path(" + i + ", 2)", desk.path(i, 2), inRound % 5);
        }
        // The sixth frame has two fields left, then a frame of five comes: its last step was cut with one more.
        desk.cut(27, 2);
        due("an edit", desk.all(0), 2);
        due("behind the cut", desk.edit(0), 27);
        due("its place", desk.path(27, 0), 0);
        due("its step", desk.path(27, 1), 0);
        due("frames", desk.all(6), 18);
        due("restored", desk.restored(), 18);
    }

    // ---- 17
    void p17_all() {
        CadenceDesk desk = parted(PARTED_RULES);
        int[] answers = {40, 1, 4, 2, 0, 0, 4};
        for (int what = 0; what < answers.length; what++) {
            due("all(" + what + ")", desk.all(what), answers[what]);
        }
        due("all(7)", desk.all(7), NONE);
        due("all(-1)", desk.all(-1), NONE);
        due("all(far)", desk.all(FAR), NONE);
        CadenceDesk cut = carried();
        cut.cut(3, 1);
        int[] answersCut = {40, 1, 5, 1, 2, 0, 5};
        for (int what = 0; what < answersCut.length; what++) {
            due("cut: all(" + what + ")", cut.all(what), answersCut[what]);
        }
        desk.cut(0, 10);
        for (int what = 0; what < answers.length; what++) {
            due("without fields: all(" + what + ")", desk.all(what), 0);
        }
    }

    // ---- 18
    void p18_edit() {
        CadenceDesk desk = parted(PARTED_RULES);
        due("edit(0)", desk.edit(0), 5);
        due("edit(1)", desk.edit(1), NONE);
        due("edit(-1)", desk.edit(-1), NONE);
        due("edit(far)", desk.edit(FAR), NONE);
        CadenceDesk many = told("width 1;frame 1 50;frame 99 20;frame 70 80;");
        Check.rules(many, "cadence 2;");
        many.carry(0, 0);
        many.cut(1, 1);
        many.cut(2, 1);
        // The fields are now top, top, top, bottom.
        due("edit(0)", many.edit(0), 1);
        due("edit(1)", many.edit(1), 2);
        due("edit(2)", many.edit(2), NONE);
    }

    // ---- 19
    void p19_group() {
        CadenceDesk desk = parted(PARTED_RULES);
        int[][] groups = {{0, 3, 0, NONE}, {3, 2, 0, NONE}, {5, 2, 0, NONE}, {7, 3, 0, NONE}};
        for (int g = 0; g < groups.length; g++) {
            for (int what = 0; what < 4; what++) {
                due("group(" + g + ", " + what + ")", desk.group(g, what), groups[g][what]);
            }
        }
        due("group(4, 0)", desk.group(4, 0), -2);
        due("group(-1, 0)", desk.group(-1, 0), -2);
        due("group(0, 4)", desk.group(0, 4), -2);
        due("group(0, -1)", desk.group(0, -1), -2);
        due("group far", desk.group(FAR, LOW), -2);
        due("without fields", new CadenceDesk().group(0, 0), -2);
    }

    void p19_mating() {
        CadenceDesk desk = carried();
        Check.rules(desk, "cadence 2 3;mate 999;");
        desk.cut(3, 1);
        // The second frame's two top fields stand alone, side by side, but of one parity.
        int[][] groups = {{0, 2, 0, NONE}, {2, 1, 1, NONE}, {3, 1, 1, NONE}, {4, 2, 0, NONE}, {6, 3, 0, NONE}};
        for (int g = 0; g < groups.length; g++) {
            for (int what = 0; what < 4; what++) {
                due("cut: group(" + g + ", " + what + ")", desk.group(g, what), groups[g][what]);
            }
        }
        due("pairs", desk.all(5), 0);
        due("frames", desk.all(6), 5);
        due("an orphan's top", desk.found(1, 0, 1), 20);
        due("an orphan's bottom", desk.found(1, 1, 1), 20);
        due("an orphan's top", desk.found(2, 0, 0), 10);
        due("an orphan's bottom", desk.found(2, 1, 0), 10);
        due("the frame of an orphan", desk.path(3, 7), 2);
        due("the frame behind", desk.path(8, 7), 4);
        due("restored", desk.restored(), 3);
        // A bottom field alone has its row for both, too.
        CadenceDesk bottom = told("width 1;frame 7 8;");
        bottom.carry(0, 0);
        bottom.cut(0, 1);
        due("an orphan", bottom.group(0, 2), 1);
        due("its top", bottom.found(0, 0, 0), 8);
        due("its bottom", bottom.found(0, 1, 0), 8);
    }

    // ---- 20
    void p20_found() {
        CadenceDesk desk = parted(PARTED_RULES);
        int[][] frames = {{1, 2}, {60, 61}, {5, 8}, {99, 98}};
        for (int f = 0; f < 4; f++) {
            due("top of " + f, desk.found(f, 0, 0), frames[f][0]);
            due("bottom of " + f, desk.found(f, 1, 0), frames[f][1]);
        }
        due("found(4)", desk.found(4, 0, 0), NONE);
        due("found(-1)", desk.found(-1, 0, 0), NONE);
        due("parity 2", desk.found(0, 2, 0), NONE);
        due("parity -1", desk.found(0, -1, 0), NONE);
        due("sample 1", desk.found(0, 0, 1), NONE);
        due("sample -1", desk.found(0, 0, -1), NONE);
        CadenceDesk bottomFirst = told(FILM);
        bottomFirst.carry(0, 1);
        due("a top behind its bottom", bottomFirst.found(0, 0, 1), 2);
        due("a bottom ahead of its top", bottomFirst.found(0, 1, 1), 4);
        // The third field is dropped: what it holds is not found.
        Check.rules(bottomFirst, "cadence 3;slack 99;");
        bottomFirst.carry(0, 0);
        bottomFirst.set(2, 0, 9);
        due("the first is kept", bottomFirst.found(0, 0, 0), 1);
    }

    // ---- 21
    void p21_known() {
        CadenceDesk desk = told("width 1;frame 7 8;frame 1 2;frame 7 8;");
        desk.carry(0, 0);
        due("known(0)", desk.known(0), 0);
        due("known(1)", desk.known(1), 1);
        due("the first that is just as it", desk.known(2), 0);
        due("known(3)", desk.known(3), NONE);
        due("known(-1)", desk.known(-1), NONE);
        desk.set(0, 0, 6);
        due("none is", desk.known(0), NONE);
        due("without fields", new CadenceDesk().known(0), NONE);
        CadenceDesk half = told("width 1;frame 7 8;frame 7 9;");
        Check.rules(half, "cadence 2;still 0;");
        half.carry(0, 0);
        due("the bottom counts, too", half.known(1), 1);
    }

    // ---- 22
    void p22_restored() {
        due("no film", new CadenceDesk().restored(), NONE);
        CadenceDesk desk = told("width 1;frame 10 20;frame 40 50;frame 70 80;");
        due("no fields", desk.restored(), 0);
        Check.rules(desk, "cadence 2;still 0;");
        desk.carry(0, 0);
        due("all", desk.restored(), 3);
        desk.doubled(0, 4);
        due("each once at most", desk.restored(), 3);
        desk.cut(4, 2);
        // The frames are now 0, 1, 1, 2.
        due("in order", desk.restored(), 3);
        desk.cut(0, 2);
        due("one is gone", desk.restored(), 2);
        desk.undo();
        desk.undo();
        desk.cut(8, 2);
        // 0, 1, 0, 1
        due("the last is gone", desk.restored(), 2);
        desk.cut(0, 2);
        desk.cut(4, 2);
        // 1, 0
        due("one order alone", desk.restored(), 1);
    }

    // ---- 23
    void p23_costs() {
        CadenceDesk desk = parted(PARTED_RULES);
        due("costs(0)", desk.costs(0), 40);
        due("costs(1)", desk.costs(1), 0);
        due("costs(2)", desk.costs(2), NONE);
        due("costs(-1)", desk.costs(-1), NONE);
        due("the path stays", desk.all(0), 40);
        due("the force stays", desk.count(4), 0);
        desk.set(9, 0, 0);
        due("costs(1) after an act", desk.costs(1), 40);
        desk.cut(0, 10);
        due("without fields", desk.costs(1), 0);
        due("none such", desk.costs(2), NONE);
    }

    // ---- 24
    void p24_guess() {
        CadenceDesk desk = parted(PARTED_RULES);
        due("guess(0)", desk.guess(0), 1);
        due("guess(1)", desk.guess(1), 0);
        due("guess(2)", desk.guess(2), 0);
        due("guess(3)", desk.guess(3), NONE);
        due("guess(-1)", desk.guess(-1), NONE);
        desk.cut(0, 1);
        due("cut: guess(0)", desk.guess(0), 1);
        due("cut: guess(1)", desk.guess(1), 0);
        due("cut: guess(2)", desk.guess(2), 1);
        desk.force(1);
        desk.carry(1, 0);
        // Now 2 3 costs nothing, too: the first frame's two fields are the end of its 3.
        due("from place 1: guess(0)", desk.guess(0), 0);
        due("from place 1: guess(1)", desk.guess(1), 1);
        due("from place 1: guess(2)", desk.guess(2), 1);
        desk.cut(0, desk.count(2));
        due("without fields: guess(0)", desk.guess(0), 0);
        due("without fields: guess(1)", desk.guess(1), NONE);
        due("without fields: guess(2)", desk.guess(2), NONE);
        CadenceDesk one = told(FILM);
        one.carry(1, 0);
        due("one cadence, asked first: guess(1)", one.guess(1), 1);
        Check.rules(one, "cadence 2;cadence 3 2;cadence 3 2;");
        due("of several the first", one.guess(0), 1);
    }

    // ---- 25
    void p25_anew() {
        CadenceDesk desk = parted(PARTED_RULES);
        int[] samples = {1, 2, 60, 61, 60, 8, 5, 98, 99, 98};
        due("how many", desk.anew(0, 0, NONE), 10);
        for (int i = 0; i < samples.length; i++) {
            due("anew(0, " + i + ", 0)", desk.anew(0, i, 0), samples[i]);
            due("anew(0, " + i + ", -2)", desk.anew(0, i, -2), i % 2);
        }
        due("i is not asked", desk.anew(1, LOW, NONE), 10);
        due("anew(1, 2, 0)", desk.anew(1, 2, 0), 1);
        due("cadence 2", desk.anew(2, 0, 0), NONE);
        due("cadence 2", desk.anew(2, 0, NONE), NONE);
        due("cadence -1", desk.anew(-1, 0, 0), NONE);
        due("i 10", desk.anew(0, 10, 0), NONE);
        due("i 10", desk.anew(0, 10, -2), NONE);
        due("i -1", desk.anew(0, -1, -2), NONE);
        due("k 1", desk.anew(0, 0, 1), NONE);
        due("k -3", desk.anew(0, 0, -3), NONE);
        due("no act", desk.count(10), 1);
        due("without fields", new CadenceDesk().anew(0, 0, NONE), 0);
        due("without fields", new CadenceDesk().anew(0, 0, 0), NONE);
        CadenceDesk full = told("width 1;" + "frame 1 50;frame 30 80;".repeat(10));
        Check.rules(full, "cadence 2;cadence 5;");
        full.carry(0, 1);
        due("frames", full.all(6), 20);
        due("at most 90", full.anew(1, 0, NONE), 90);
        due("a top one first", full.anew(1, 0, -2), 0);
        due("the last one", full.anew(1, 89, 0), 80);
        due("no more", full.anew(1, 90, 0), NONE);
    }

    // ---- 26
    void p26_isClean() {
        CadenceDesk desk = parted(PARTED_RULES);
        check.due("isClean(1)", desk.isClean(1), true);
        check.due("isClean(0)", desk.isClean(0), false);
        check.due("isClean(2)", desk.isClean(2), false);
        check.due("isClean(-1)", desk.isClean(-1), false);
        check.due("without fields", new CadenceDesk().isClean(0), true);
        check.due("without fields, none such", new CadenceDesk().isClean(1), false);
        CadenceDesk flat = told("width 1;frame 5 5;frame 60 60;");
        Check.rules(flat, "cadence 2;");
        flat.carry(0, 1);
        check.due("the same samples of other parities", flat.isClean(0), false);
        flat.carry(0, 0);
        check.due("and of the same", flat.isClean(0), true);
        flat.cut(3, 1);
        check.due("one fewer", flat.isClean(0), false);
    }

    // ---- 27
    void p27_count() {
        CadenceDesk desk = parted("cadence 2;cadence 3 2 2;slack 1;edit 2;still 3;mate 4;measure many;");
        desk.force(1);
        desk.cut(0, 1);
        desk.feed(0, 0, 0, 0, 0);
        int[] answers = {1, 4, 9, 2, 1, 1, 2, 3, 4, 2, 2, 20};
        for (int what = 0; what < answers.length; what++) {
            due("count(" + what + ")", desk.count(what), answers[what]);
        }
        due("count(12)", desk.count(12), NONE);
        due("count(-1)", desk.count(-1), NONE);
        due("count(far)", desk.count(FAR), NONE);
        due("count(low)", desk.count(LOW), NONE);
    }
}
