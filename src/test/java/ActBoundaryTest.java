/**
 * Promises 8 to 15 and the second part of the terms (fields, to carry, the acts and how they
 * are undone, apart): a test for each sentence that names a boundary.
 */
public final class ActBoundaryTest {
    private static final int NONE = CadenceDesk.NONE;
    private static final int FAR = Integer.MAX_VALUE;
    private static final int LOW = Integer.MIN_VALUE;

    private final Check check = new Check("ActBoundaryTest");

    public static void main(String[] args) {
        ActBoundaryTest test = new ActBoundaryTest();
        test.check.runPromises(test);
    }

    private void due(String call, long got, long want) {
        check.due(call, got, want);
    }

    private void dueBusy(CadenceDesk desk) {
        check.due("all is as it was", Snapshot.whole(desk), Snapshot.whole(Desks.busy()));
    }

    private void dueFull(CadenceDesk desk) {
        check.due("all is as it was", Snapshot.brief(desk), Snapshot.brief(Desks.full()));
    }

    private void dueFields(String when, CadenceDesk desk, int... firstSamples) {
        due(when + ": count(2)", desk.count(2), firstSamples.length);
        for (int i = 0; i < firstSamples.length; i++) {
            due(when + ": field(" + i + ", 0)", Check.fieldOf(desk, i, 0), firstSamples[i]);
        }
    }

    private void dueParities(String when, CadenceDesk desk, int... parities) {
        for (int i = 0; i < parities.length; i++) {
            due(when + ": field(" + i + ", -1)", Check.fieldOf(desk, i, NONE), parities[i]);
        }
    }

    // ---- 8: carry

    void p08_noneWithoutAFilm() {
        CadenceDesk desk = new CadenceDesk();
        due("carry(0, 0)", desk.carry(0, 0), NONE);
        due("carry(1, 1)", desk.carry(1, 1), NONE);
        due("no act", desk.count(10), 0);
    }

    void p08_aPlaceThatTheCadenceHas() {
        CadenceDesk desk = Desks.told("width 1;frame 1 2;frame 3 4;", "cadence 2 3 4 5 2 3;cadence 2;");
        int[] many = {5, 7, 9, 7, 5, 5};
        for (int place = 0; place < 6; place++) {
            due("carry(" + place + ", 0)", desk.carry(place, 0), many[place]);
        }
        due("carry(6, 0)", desk.carry(6, 0), NONE);
        due("it stays", desk.count(2), 5);
        desk.force(1);
        due("carry(0, 0)", desk.carry(0, 0), 4);
        due("carry(1, 0)", desk.carry(1, 0), NONE);
    }

    void p08_otherPlacesAndParitiesAreRefused() {
        CadenceDesk desk = Desks.busy();
        for (int other : new int[] {-1, -2, 2, 3, FAR, LOW}) {
            due("carry(" + other + ", 0)", desk.carry(other, 0), NONE);
            due("carry(0, " + other + ")", desk.carry(0, other), NONE);
            due("carry(" + other + ", " + other + ")", desk.carry(other, other), NONE);
        }
        dueBusy(desk);
    }

    void p08_behindTheLastNumberTheFirstAgain() {
        CadenceDesk desk = Desks.told("width 1;frame 1 2;frame 11 12;frame 21 22;frame 31 32;", "cadence 2 3;");
        due("carry(1, 0)", desk.carry(1, 0), 10);
        dueFields("carry(1, 0)", desk, 1, 2, 1, 12, 11, 22, 21, 22, 31, 32);
        Check.rules(desk, "cadence 3;");
        due("of one number", desk.carry(0, 0), 12);
        dueFields("carry(0, 0)", desk, 1, 2, 1, 12, 11, 12, 21, 22, 21, 32, 31, 32);
    }

    void p08_theParityGoesOnFromFrameToFrame() {
        CadenceDesk desk = Desks.told("width 1;frame 1 2;frame 11 12;", "cadence 3;");
        desk.carry(0, 0);
        dueParities("carry(0, 0)", desk, 0, 1, 0, 1, 0, 1);
        desk.carry(0, 1);
        dueParities("carry(0, 1)", desk, 1, 0, 1, 0, 1, 0);
        dueFields("carry(0, 1)", desk, 2, 1, 2, 11, 12, 11);
    }

    void p08_ninetyFieldsAreTheMost() {
        CadenceDesk desk = Desks.told(Desks.longFilm(), "cadence 5 4;");
        due("just ninety", desk.carry(0, 0), 90);
        due("the last frame's last", Check.fieldOf(desk, 89, 0), 78);
        due("no more", Check.fieldOf(desk, 90, 0), Check.THROWS);
        Check.rules(desk, "cadence 4 4 4 4 5;");
        due("fewer", desk.carry(0, 0), 84);
    }

    void p08_theNinetyFirstIsLeftOutAndAllBehindIt() {
        CadenceDesk desk = Desks.told(Desks.longFilm(), "cadence 5;");
        due("carry(0, 0)", desk.carry(0, 0), 90);
        due("the eighteenth frame's last", Check.fieldOf(desk, 89, 0), 70);
        due("count(2)", desk.count(2), 90);
        Check.rules(desk, "cadence 4 5 5 5 5 5;");
        due("within a frame", desk.carry(0, 0), 90);
        // 29 fields a round of six frames: three rounds are 87, the nineteenth frame has four, its fourth is left out.
        due("the nineteenth frame's third", Check.fieldOf(desk, 89, 0), 74);
        due("its parity", Check.fieldOf(desk, 89, NONE), 1);
    }

    void p08_fieldsAreInPlaceOfThoseThereWere() {
        CadenceDesk desk = Desks.busy();
        due("carry(0, 1)", desk.carry(0, 1), 10);
        dueFields("carry(0, 1)", desk, 3, 1, 30, 10, 30, 50, 70, 90, 92, 90);
        due("the same once more", desk.carry(0, 1), 10);
        due("each is an act", desk.count(10), 5);
    }

    // ---- 9: cut

    void p09_oneOrMore() {
        CadenceDesk desk = Desks.busy();
        due("cut(0, 0)", desk.cut(0, 0), NONE);
        due("cut(0, -1)", desk.cut(0, -1), NONE);
        due("cut(5, -3)", desk.cut(5, -3), NONE);
        due("cut(0, least)", desk.cut(0, LOW), NONE);
        dueBusy(desk);
        CadenceDesk other = Desks.busy();
        due("cut(0, 1)", other.cut(0, 1), 8);
    }

    void p09_theyAreNotThere() {
        CadenceDesk desk = Desks.busy();
        int[][] wrong = {{-1, 1}, {-1, 2}, {9, 1}, {10, 1}, {8, 2}, {0, 10}, {1, 9}, {FAR, 1}, {FAR, FAR}, {1, FAR},
            {LOW, 1}, {LOW, LOW}, {LOW, FAR}, {9, 0}, {-9, 18}};
        for (int[] pair : wrong) {
            due("cut(" + pair[0] + ", " + pair[1] + ")", desk.cut(pair[0], pair[1]), NONE);
        }
        dueBusy(desk);
    }

    void p09_withoutFieldsNoneAreThere() {
        CadenceDesk desk = Desks.told(Desks.FILM);
        due("cut(0, 1)", desk.cut(0, 1), NONE);
        due("cut(0, 0)", desk.cut(0, 0), NONE);
        due("no act", desk.count(10), 0);
    }

    void p09_theFirstTheLastAndAll() {
        CadenceDesk desk = Desks.carried(Desks.FILM, "cadence 2 3;");
        due("the first", desk.cut(0, 1), 9);
        dueFields("the first", desk, 3, 10, 30, 10, 70, 50, 92, 90, 92);
        due("the last", desk.cut(8, 1), 8);
        dueFields("the last", desk, 3, 10, 30, 10, 70, 50, 92, 90);
        due("up to the last", desk.cut(5, 3), 5);
        dueFields("up to the last", desk, 3, 10, 30, 10, 70);
        due("all", desk.cut(0, 5), 0);
        due("no more", desk.cut(0, 1), NONE);
        due("field(0, 0)", Check.fieldOf(desk, 0, 0), Check.THROWS);
        due("the film is there still", desk.count(1), 4);
    }

    void p09_allOfNinety() {
        CadenceDesk desk = Desks.full();
        due("cut(0, 91)", desk.cut(0, 91), NONE);
        due("cut(89, 2)", desk.cut(89, 2), NONE);
        dueFull(desk);
        due("cut(89, 1)", desk.cut(89, 1), 89);
        due("cut(0, 89)", desk.cut(0, 89), 0);
    }

    // ---- 10: doubled

    void p10_oneOrMore() {
        CadenceDesk desk = Desks.busy();
        due("doubled(0, 0)", desk.doubled(0, 0), NONE);
        due("doubled(0, -1)", desk.doubled(0, -1), NONE);
        due("doubled(0, least)", desk.doubled(0, LOW), NONE);
        dueBusy(desk);
        CadenceDesk other = Desks.busy();
        due("doubled(0, 1)", other.doubled(0, 1), 10);
    }

    void p10_theyAreNotThere() {
        CadenceDesk desk = Desks.busy();
        int[][] wrong = {{-1, 1}, {-1, 2}, {9, 1}, {8, 2}, {0, 10}, {1, 9}, {FAR, 1}, {FAR, FAR}, {1, FAR},
            {LOW, 1}, {LOW, LOW}, {LOW, FAR}, {9, 0}};
        for (int[] pair : wrong) {
            due("doubled(" + pair[0] + ", " + pair[1] + ")", desk.doubled(pair[0], pair[1]), NONE);
        }
        dueBusy(desk);
        due("without fields", Desks.told(Desks.FILM).doubled(0, 1), NONE);
    }

    void p10_theyComeBehindTheLastOfThem() {
        CadenceDesk desk = Desks.carried("width 1;frame 1 2;frame 11 12;", "cadence 2;");
        due("the first", desk.doubled(0, 1), 5);
        dueFields("the first", desk, 1, 1, 2, 11, 12);
        due("the last", desk.doubled(4, 1), 6);
        dueFields("the last", desk, 1, 1, 2, 11, 12, 12);
        due("some", desk.doubled(2, 3), 9);
        dueFields("some", desk, 1, 1, 2, 11, 12, 2, 11, 12, 12);
        dueParities("some", desk, 0, 0, 1, 0, 1, 1, 0, 1, 1);
        due("all", desk.doubled(0, 9), 18);
        dueFields("all", desk, 1, 1, 2, 11, 12, 2, 11, 12, 12, 1, 1, 2, 11, 12, 2, 11, 12, 12);
    }

    void p10_ninetyAreTheMost() {
        CadenceDesk desk = Desks.carried(Desks.longFilm(), "cadence 3 2 2 2;");
        due("fields", desk.count(2), 45);
        due("one by one", desk.doubled(44, 1), 46);
        due("to 91", desk.doubled(0, 45), NONE);
        due("to 92", desk.doubled(0, 46), NONE);
        due("it stays", desk.count(2), 46);
        due("acts", desk.count(10), 2);
        due("to 90", desk.doubled(0, 44), 90);
        due("beyond", desk.doubled(0, 1), NONE);
        due("beyond", desk.doubled(89, 1), NONE);
        due("all", desk.doubled(0, 90), NONE);
        due("count(2)", desk.count(2), 90);
        due("acts", desk.count(10), 3);
        desk.cut(3, 1);
        due("room for one", desk.doubled(3, 2), NONE);
        due("room for one", desk.doubled(3, 1), 90);
    }

    void p10_aFullRowIsLeftAsItWas() {
        CadenceDesk desk = Desks.full();
        due("doubled(0, 1)", desk.doubled(0, 1), NONE);
        due("doubled(89, 1)", desk.doubled(89, 1), NONE);
        due("doubled(0, 90)", desk.doubled(0, 90), NONE);
        dueFull(desk);
    }

    // ---- 11: noise

    void p11_mIsOneToNine() {
        CadenceDesk desk = Desks.busy();
        for (int m : new int[] {0, -1, -9, 10, 11, FAR, LOW}) {
            due("noise(1, " + m + ")", desk.noise(1, m), NONE);
        }
        dueBusy(desk);
        CadenceDesk other = Desks.busy();
        due("m 1", other.noise(1, 1) >= 0 ? 1 : 0, 1);
        due("m 9", other.noise(1, 9) > 0 ? 1 : 0, 1);
        due("acts", other.count(10), 5);
    }

    void p11_noneWithoutFields() {
        CadenceDesk desk = Desks.told(Desks.FILM);
        due("noise(1, 1)", desk.noise(1, 1), NONE);
        due("noise(1, 9)", desk.noise(1, 9), NONE);
        due("no act", desk.count(10), 0);
        desk.carry(0, 0);
        desk.cut(0, 10);
        due("all cut", desk.noise(1, 1), NONE);
        due("acts", desk.count(10), 2);
    }

    void p11_lessIsZeroAndMoreIsNinetyNine() {
        // Of seed 1 the first draw of 19 is highest 24 bits of 1015568748, 3967065, modulo 19: 17, which is 8 more.
        for (int sample : new int[] {90, 91, 92, 99}) {
            CadenceDesk bright = oneField(sample);
            due("changed", bright.noise(1, 9), sample == 99 ? 0 : 1);
            due("of " + sample, Check.fieldOf(bright, 0, 0), Math.min(99, sample + 8));
        }
        // Of seed 0 the first draw of 19 is 3960563 modulo 19, 13; of 3 it is 2. Of seed 5: 3993073 modulo 3 is 1.
        due("four more", noisy(50, 0, 9), 54);
        due("one more", noisy(50, 0, 1), 51);
        due("nothing", noisy(50, 5, 1), 50);
        for (int seed = 0; seed < 40; seed++) {
            int by = ((1664525 * seed + 1013904223) >>> 8) % 19 - 9;
            due("of 0 by " + by, noisy(0, seed, 9), Math.max(0, by));
            due("of 99 by " + by, noisy(99, seed, 9), Math.min(99, 99 + by));
            due("of 3 by " + by, noisy(3, seed, 9), Math.max(0, 3 + by));
        }
    }

    private static CadenceDesk oneField(int sample) {
        CadenceDesk desk = Desks.carried("width 1;frame " + sample + " 50;", "cadence 2;");
        desk.cut(1, 1);
        return desk;
    }

    private static int noisy(int sample, int seed, int m) {
        CadenceDesk desk = oneField(sample);
        desk.noise(seed, m);
        return Check.fieldOf(desk, 0, 0);
    }

    void p11_theHighest24BitsAreWithoutSign() {
        for (int seed : new int[] {LOW, LOW + 1, -1, -2, 0, 1, FAR, FAR - 1, 0x40000000, 0xC0000000}) {
            for (int m = 1; m <= 9; m++) {
                long x = (1664525L * (seed & 0xFFFFFFFFL) + 1013904223L) % 0x100000000L;
                long want = 50 + x / 256 % (2 * m + 1) - m;
                due("seed " + seed + ", m " + m, noisy(50, seed, m), want);
            }
        }
    }

    void p11_drawsGoOnFieldByFieldAndWrap() {
        CadenceDesk desk = Desks.carried("width 6;frame 50 50 50 50 50 50 50 50 50 50 50 50;", "cadence 5;");
        desk.noise(-5, 9);
        long x = -5L & 0xFFFFFFFFL;
        for (int i = 0; i < 5; i++) {
            for (int k = 0; k < 6; k++) {
                x = (x * 1664525L + 1013904223L) % 0x100000000L;
                due("field(" + i + ", " + k + ")", Check.fieldOf(desk, i, k), 50 + x / 256 % 19 - 9);
            }
        }
    }

    void p11_samplesThatStayAreNotCounted() {
        CadenceDesk desk = Desks.full();
        int[] before = new int[90];
        for (int i = 0; i < 90; i++) {
            before[i] = Check.fieldOf(desk, i, 0);
        }
        int changed = desk.noise(12345, 1);
        int differ = 0;
        for (int i = 0; i < 90; i++) {
            differ += Check.fieldOf(desk, i, 0) == before[i] ? 0 : 1;
        }
        due("changed", changed, differ);
        due("some stay", differ < 90 ? 1 : 0, 1);
        CadenceDesk bright = oneField(99);
        due("none changed", bright.noise(0, 1), 0);
        due("it is an act", bright.count(10), 3);
        due("undo()", bright.undo(), 2);
    }

    void p11_parityAndFilmAreNotNoisy() {
        CadenceDesk desk = Desks.carried("width 1;frame 99 99;frame 0 0;", "cadence 2;");
        for (int seed = 0; seed < 9; seed++) {
            desk.noise(seed, 9);
        }
        dueParities("noisy", desk, 0, 1, 0, 1);
        due("frame(0, 0, 0)", desk.frame(0, 0, 0), 99);
        due("frame(1, 1, 0)", desk.frame(1, 1, 0), 0);
    }

    // ---- 12: set

    void p12_aSampleIsZeroToNinetyNine() {
        CadenceDesk desk = Desks.busy();
        due("set(2, 1, 0)", desk.set(2, 1, 0), 20);
        due("set(2, 1, 99)", desk.set(2, 1, 99), 0);
        due("field(2, 1)", Check.fieldOf(desk, 2, 1), 99);
        CadenceDesk other = Desks.busy();
        for (int v : new int[] {-1, -2, 100, 101, 127, 128, FAR, LOW}) {
            due("set(2, 1, " + v + ")", other.set(2, 1, v), NONE);
        }
        dueBusy(other);
    }

    void p12_noneSuchField() {
        CadenceDesk desk = Desks.busy();
        for (int field : new int[] {-1, -2, 9, 10, 90, FAR, LOW}) {
            due("set(" + field + ", 0, 1)", desk.set(field, 0, 1), NONE);
        }
        dueBusy(desk);
        CadenceDesk other = Desks.busy();
        due("set(8, 0, 1)", other.set(8, 0, 1), 92);
        due("without fields", Desks.told(Desks.FILM).set(0, 0, 1), NONE);
    }

    void p12_noneSuchSample() {
        CadenceDesk desk = Desks.busy();
        for (int k : new int[] {-1, -2, 2, 3, 6, FAR, LOW}) {
            due("set(0, " + k + ", 1)", desk.set(0, k, 1), NONE);
        }
        dueBusy(desk);
        CadenceDesk wide = Desks.carried("width 6;frame 1 2 3 4 5 6 7 8 9 10 11 12;", "cadence 2;");
        due("set(1, 5, 99)", wide.set(1, 5, 99), 12);
        due("its parity stays", Check.fieldOf(wide, 1, NONE), 1);
        due("its neighbour stays", Check.fieldOf(wide, 1, 4), 11);
        due("set(1, 6, 1)", wide.set(1, 6, 1), NONE);
    }

    void p12_theFieldAloneIsSet() {
        CadenceDesk desk = Desks.carried("width 1;frame 1 2;", "cadence 5;");
        due("set(2, 0, 50)", desk.set(2, 0, 50), 1);
        dueFields("set", desk, 1, 2, 50, 2, 1);
        due("frame(0, 0, 0)", desk.frame(0, 0, 0), 1);
    }

    void p12_whatItWasIsAnActToo() {
        CadenceDesk desk = Desks.busy();
        due("set(0, 0, 5)", desk.set(0, 0, 5), 5);
        due("count(10)", desk.count(10), 4);
        due("undo()", desk.undo(), 3);
        dueBusy(desk);
    }

    // ---- 13: undo

    void p13_noneIfNoneCanBe() {
        CadenceDesk desk = Desks.told(Desks.FILM);
        due("undo()", desk.undo(), NONE);
        desk.carry(0, 0);
        due("undo()", desk.undo(), 0);
        due("undo()", desk.undo(), NONE);
        due("undo()", desk.undo(), NONE);
        due("count(10)", desk.count(10), 0);
        due("count(2)", desk.count(2), 0);
    }

    void p13_twelveCanBeUndoneTheThirteenthNot() {
        for (int acts = 11; acts <= 14; acts++) {
            CadenceDesk desk = Desks.told("width 1;frame 0 50;");
            desk.carry(0, 0);
            for (int v = 1; v < acts; v++) {
                desk.set(0, 0, v);
            }
            int can = Math.min(acts, 12);
            due("count(10)", desk.count(10), can);
            for (int left = can - 1; left >= 0; left--) {
                due("undo()", desk.undo(), left);
            }
            due("undo()", desk.undo(), NONE);
            due("fields of the first act", desk.count(2), acts > 12 ? 2 : 0);
            due("the sample of the last act that stays", acts > 12 ? Check.fieldOf(desk, 0, 0) : 0, acts > 12 ? acts - 13 : 0);
        }
    }

    void p13_afterManyActsStillTheLastTwelve() {
        CadenceDesk desk = Desks.told("width 1;frame 0 50;");
        desk.carry(0, 0);
        for (int v = 1; v <= 40; v++) {
            due("set", desk.set(0, 0, v), v - 1);
            due("count(10)", desk.count(10), Math.min(12, v + 1));
        }
        for (int left = 11; left >= 0; left--) {
            due("undo()", desk.undo(), left);
            due("field(0, 0)", Check.fieldOf(desk, 0, 0), 28 + left);
        }
        due("undo()", desk.undo(), NONE);
        due("field(0, 0)", Check.fieldOf(desk, 0, 0), 28);
    }

    void p13_actsBehindAnUndo() {
        CadenceDesk desk = Desks.carried("width 1;frame 0 50;", "cadence 2;");
        for (int v = 1; v <= 20; v++) {
            desk.set(0, 0, v);
        }
        for (int i = 0; i < 5; i++) {
            desk.undo();
        }
        due("field(0, 0)", Check.fieldOf(desk, 0, 0), 15);
        for (int v = 31; v <= 36; v++) {
            desk.set(0, 0, v);
        }
        due("count(10)", desk.count(10), 12);
        int[] back = {35, 34, 33, 32, 31, 15, 14, 13, 12, 11, 10, 9};
        for (int i = 0; i < back.length; i++) {
            due("undo()", desk.undo(), 11 - i);
            due("field(0, 0)", Check.fieldOf(desk, 0, 0), back[i]);
        }
        due("undo()", desk.undo(), NONE);
    }

    void p13_eachKindOfActIsUndone() {
        CadenceDesk desk = Desks.carried("width 1;frame 1 2;frame 11 12;", "cadence 2;");
        desk.cut(1, 2);
        dueFields("cut", desk, 1, 12);
        desk.doubled(0, 2);
        dueFields("doubled", desk, 1, 12, 1, 12);
        desk.set(3, 0, 40);
        dueFields("set", desk, 1, 12, 1, 40);
        desk.noise(3, 9);
        desk.carry(0, 1);
        dueFields("carry", desk, 2, 1, 12, 11);
        desk.undo();
        due("undo noise", desk.undo(), 4);
        dueFields("undo noise", desk, 1, 12, 1, 40);
        dueParities("undo noise", desk, 0, 1, 0, 1);
        due("undo set", desk.undo(), 3);
        dueFields("undo set", desk, 1, 12, 1, 12);
        due("undo doubled", desk.undo(), 2);
        dueFields("undo doubled", desk, 1, 12);
        due("undo cut", desk.undo(), 1);
        dueFields("undo cut", desk, 1, 2, 11, 12);
        due("undo carry", desk.undo(), 0);
        due("count(2)", desk.count(2), 0);
    }

    void p13_ninetyFieldsComeBack() {
        CadenceDesk desk = Desks.full();
        desk.cut(0, 90);
        due("undo()", desk.undo(), 1);
        dueFull(desk);
        desk.carry(0, 1);
        desk.undo();
        dueFull(desk);
    }

    void p13_fieldsAndNothingElse() {
        CadenceDesk desk = Desks.busy();
        desk.force(0);
        desk.feed(1, 2, 3, 4, 5);
        due("undo()", desk.undo(), 2);
        due("the force stays", desk.count(4), 0);
        due("the tape stays", desk.count(11), 20);
        due("the film stays", desk.count(1), 4);
        due("the rules stay", desk.count(6), 7);
        due("field(0, 0)", Check.fieldOf(desk, 0, 0), 1);
    }

    void p13_refusedCallsAreNoActs() {
        CadenceDesk desk = Desks.busy();
        desk.carry(2, 0);
        desk.cut(9, 1);
        desk.doubled(9, 1);
        desk.noise(1, 10);
        desk.set(0, 0, 100);
        due("count(10)", desk.count(10), 3);
        due("undo()", desk.undo(), 2);
        due("the set is undone", Check.fieldOf(desk, 0, 0), 1);
    }

    void p13_refusedCallsDoNotPushOutTheTwelfth() {
        CadenceDesk desk = Desks.told("width 1;frame 0 50;");
        desk.carry(0, 0);
        for (int v = 1; v < 12; v++) {
            desk.set(0, 0, v);
        }
        for (int i = 0; i < 5; i++) {
            desk.cut(2, 1);
            desk.set(0, 0, 100);
            desk.undo();
            desk.set(0, 0, 11);
        }
        for (int left = 11; left >= 0; left--) {
            due("undo()", desk.undo(), left);
        }
        due("count(2)", desk.count(2), 0);
    }

    void p13_anUndoIsNotUndone() {
        CadenceDesk desk = Desks.carried("width 1;frame 1 2;", "cadence 2;");
        desk.set(0, 0, 30);
        desk.set(0, 0, 31);
        due("undo()", desk.undo(), 2);
        due("undo()", desk.undo(), 1);
        due("field(0, 0)", Check.fieldOf(desk, 0, 0), 1);
    }

    void p13_whenAFilmOrRulesAreToldNothingCanBe() {
        CadenceDesk desk = Desks.busy();
        Check.rules(desk, "cadence 2 3;");
        due("rules: undo()", desk.undo(), NONE);
        due("the fields stay", desk.count(2), 9);
        desk.cut(0, 1);
        Check.film(desk, "width 1;frame 1 2;");
        due("film: undo()", desk.undo(), NONE);
        due("no fields", desk.count(2), 0);
    }

    void p13_whenAFaultIsToldTheyStillCanBe() {
        CadenceDesk desk = Desks.busy();
        Check.rules(desk, "cadence 9;");
        Check.film(desk, "width 9;");
        desk.film(1);
        desk.rules(-1);
        due("count(10)", desk.count(10), 3);
        due("undo()", desk.undo(), 2);
        due("undo()", desk.undo(), 1);
        due("count(2)", desk.count(2), 10);
    }

    void p13_thePathFollowsWhatIsUndone() {
        CadenceDesk desk = Desks.carried(Desks.FILM, "cadence 2 3;cadence 2;");
        due("all(0)", desk.all(0), 0);
        due("costs(0)", desk.costs(0), 0);
        desk.cut(3, 1);
        due("all(0)", desk.all(0), 40);
        due("costs(0)", desk.costs(0), 40);
        desk.undo();
        due("all(0)", desk.all(0), 0);
        due("costs(0)", desk.costs(0), 0);
        due("restored()", desk.restored(), 4);
    }

    // ---- 14: field

    void p14_noneSuchFieldThrows() {
        CadenceDesk desk = Desks.busy();
        due("field(8, 0)", Check.fieldOf(desk, 8, 0), 92);
        for (int field : new int[] {-1, -2, 9, 10, 90, FAR, LOW}) {
            due("field(" + field + ", 0)", Check.fieldOf(desk, field, 0), Check.THROWS);
            due("field(" + field + ", -1)", Check.fieldOf(desk, field, NONE), Check.THROWS);
        }
        dueBusy(desk);
    }

    void p14_noneSuchSampleThrows() {
        CadenceDesk desk = Desks.busy();
        due("field(0, 1)", Check.fieldOf(desk, 0, 1), 2);
        for (int k : new int[] {-2, -3, 2, 3, 6, FAR, LOW}) {
            due("field(0, " + k + ")", Check.fieldOf(desk, 0, k), Check.THROWS);
        }
        CadenceDesk wide = Desks.carried("width 6;frame 1 2 3 4 5 6 7 8 9 10 11 12;", "cadence 2;");
        due("field(1, 5)", Check.fieldOf(wide, 1, 5), 12);
        due("field(1, 6)", Check.fieldOf(wide, 1, 6), Check.THROWS);
    }

    void p14_withoutFieldsItThrows() {
        due("new", Check.fieldOf(new CadenceDesk(), 0, NONE), Check.THROWS);
        CadenceDesk desk = Desks.told(Desks.FILM);
        due("a film", Check.fieldOf(desk, 0, 0), Check.THROWS);
        desk.carry(0, 0);
        due("field(9, 0)", Check.fieldOf(desk, 9, 0), 92);
        desk.cut(9, 1);
        due("it was cut", Check.fieldOf(desk, 9, 0), Check.THROWS);
        desk.undo();
        due("undone", Check.fieldOf(desk, 9, 0), 92);
    }

    void p14_theNinetiethField() {
        CadenceDesk desk = Desks.full();
        due("field(89, -1)", Check.fieldOf(desk, 89, NONE), 1);
        due("field(89, 0)", Check.fieldOf(desk, 89, 0), 70);
        due("field(90, 0)", Check.fieldOf(desk, 90, 0), Check.THROWS);
        due("field(90, -1)", Check.fieldOf(desk, 90, NONE), Check.THROWS);
    }

    // ---- 15: apart

    void p15_noneSuchField() {
        CadenceDesk desk = Desks.busy();
        due("apart(8, 0)", desk.apart(8, 0) >= 0 ? 1 : 0, 1);
        for (int field : new int[] {-1, -2, 9, 10, 90, FAR, LOW}) {
            due("apart(" + field + ", 0)", desk.apart(field, 0), NONE);
            due("apart(0, " + field + ")", desk.apart(0, field), NONE);
            due("apart(" + field + ", " + field + ")", desk.apart(field, field), NONE);
        }
    }

    void p15_theFarthestThereIs() {
        CadenceDesk desk = Desks.told("width 6;frame 0 0 0 0 0 0 99 99 99 99 99 99;");
        String[] measures = {"sum", "most", "many"};
        int[] most = {594, 99, 6};
        for (int i = 0; i < measures.length; i++) {
            Check.rules(desk, "cadence 2;measure " + measures[i] + ";");
            desk.carry(0, 0);
            due(measures[i], desk.apart(0, 1), most[i]);
            due(measures[i] + " the other way", desk.apart(1, 0), most[i]);
            due(measures[i] + " of itself", desk.apart(1, 1), 0);
        }
    }

    void p15_measuresDiffer() {
        CadenceDesk desk = Desks.told("width 4;frame 10 20 30 40 13 20 25 41;");
        String[] measures = {"sum", "most", "many"};
        int[] apart = {9, 5, 3};
        for (int i = 0; i < measures.length; i++) {
            Check.rules(desk, "cadence 2;measure " + measures[i] + ";");
            desk.carry(0, 0);
            due(measures[i], desk.apart(0, 1), apart[i]);
        }
    }
}
