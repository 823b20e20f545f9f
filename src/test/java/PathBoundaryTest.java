import java.util.ArrayList;
import java.util.List;

/**
 * Promises 16 to 27 and the third part of the terms (paths, their cost, the path, groups, found
 * frames, guess, restored, anew): a test for each sentence that names a boundary.
 * What is said of mated groups is in MatedTest.
 */
public final class PathBoundaryTest {
    private static final int NONE = CadenceDesk.NONE;
    private static final int NO_GROUP = -2;
    private static final int ASKS_PARITY = -2;
    private static final int FAR = Integer.MAX_VALUE;
    private static final int LOW = Integer.MIN_VALUE;

    private static final int PLACE = 0;
    private static final int STEP = 1;
    private static final int SEEN = 2;
    private static final int EDIT = 3;
    private static final int COST = 4;
    private static final int GROUP = 5;
    private static final int KEPT = 6;
    private static final int FOUND = 7;

    /** By the cadence 3: 10 20 10, 70 60 70, 30 90 30. */
    private static final String THREE = "width 1;frame 10 20;frame 60 70;frame 30 90;";

    /** From place 1 of the cadence 2 3 on: 10 20 10, 50 40, 80 70 80, 95 5. */
    private static final String FOUR = "width 1;frame 10 20;frame 40 50;frame 70 80;frame 95 5;";

    private final Check check = new Check("PathBoundaryTest");

    public static void main(String[] args) {
        PathBoundaryTest test = new PathBoundaryTest();
        test.check.runPromises(test);
    }

    private void due(String call, long got, long want) {
        check.due(call, got, want);
    }

    private void duePath(CadenceDesk desk, int what, int... answers) {
        for (int i = 0; i < answers.length; i++) {
            due("path(" + i + ", " + what + ")", desk.path(i, what), answers[i]);
        }
    }

    private void dueAll(String when, CadenceDesk desk, int... answers) {
        for (int what = 0; what < answers.length; what++) {
            due(when + ": all(" + what + ")", desk.all(what), answers[what]);
        }
    }

    // ---- 16: path, which fields and what

    void p16_noneSuchField() {
        CadenceDesk desk = Desks.busy();
        due("path(8, 0)", desk.path(8, 0) >= 0 ? 1 : 0, 1);
        for (int field : new int[] {-1, -2, 9, 10, 90, FAR, LOW}) {
            for (int what = 0; what < 8; what++) {
                due("path(" + field + ", " + what + ")", desk.path(field, what), NONE);
            }
        }
    }

    void p16_othersThanZeroToSeven() {
        CadenceDesk desk = Desks.busy();
        for (int what = 0; what < 8; what++) {
            due("path(0, " + what + ")", desk.path(0, what) >= 0 ? 1 : 0, 1);
        }
        for (int what : new int[] {-1, -2, 8, 9, FAR, LOW}) {
            due("path(0, " + what + ")", desk.path(0, what), NONE);
        }
    }

    void p16_withoutFieldsThereIsNone() {
        for (int what = 0; what < 8; what++) {
            due("new: path(0, " + what + ")", new CadenceDesk().path(0, what), NONE);
            due("a film: path(0, " + what + ")", Desks.told(THREE).path(0, what), NONE);
        }
    }

    void p16_theNinetiethField() {
        CadenceDesk desk = Desks.full();
        int[] last = {0, 4, 4, 0, 0, 17, 0, 17};
        for (int what = 0; what < 8; what++) {
            due("path(89, " + what + ")", desk.path(89, what), last[what]);
            due("path(90, " + what + ")", desk.path(90, what), NONE);
        }
    }

    // ---- 16: path, how fields go on

    void p16_theFirstFieldHasAnyPlaceAndStep() {
        CadenceDesk desk = Desks.told(FOUR);
        int[] steps = {0, 1, 2};
        for (int cut = 0; cut < 3; cut++) {
            desk.carry(1, 0);
            if (cut > 0) {
                desk.cut(0, cut);
            }
            due("place", desk.path(0, PLACE), 1);
            due("step", desk.path(0, STEP), steps[cut]);
            due("seen", desk.path(0, SEEN), 0);
            due("no edit", desk.path(0, EDIT), 0);
            due("cost", desk.all(0), 0);
        }
        desk.carry(1, 0);
        desk.cut(0, 3);
        due("place", desk.path(0, PLACE), 0);
        due("step", desk.path(0, STEP), 0);
    }

    void p16_seenIsHowManyAreAheadAtMostStep() {
        CadenceDesk desk = Desks.told(FOUR);
        desk.carry(1, 0);
        duePath(desk, STEP, 0, 1, 2, 0, 1, 0, 1, 2, 0, 1);
        duePath(desk, SEEN, 0, 1, 2, 0, 1, 0, 1, 2, 0, 1);
        desk.cut(0, 1);
        duePath(desk, STEP, 1, 2, 0, 1, 0, 1, 2, 0, 1);
        duePath(desk, SEEN, 0, 1, 0, 1, 0, 1, 2, 0, 1);
    }

    void p16_behindTheLastStepTheNextPlace() {
        CadenceDesk desk = Desks.carried(THREE, "cadence 2 3 4;");
        duePath(desk, PLACE, 0, 0, 1, 1, 1, 2, 2, 2, 2);
        duePath(desk, STEP, 0, 1, 0, 1, 2, 0, 1, 2, 3);
    }

    void p16_behindTheLastPlaceTheFirst() {
        CadenceDesk desk = Desks.told(FOUR);
        desk.carry(1, 0);
        duePath(desk, PLACE, 1, 1, 1, 0, 0, 1, 1, 1, 0, 0);
        CadenceDesk one = Desks.carried(THREE, "cadence 3;");
        duePath(one, PLACE, 0, 0, 0, 0, 0, 0, 0, 0, 0);
        duePath(one, STEP, 0, 1, 2, 0, 1, 2, 0, 1, 2);
        duePath(one, EDIT, 0, 0, 0, 0, 0, 0, 0, 0, 0);
    }

    void p16_toTheNextStepItIsOfTheOtherParity() {
        CadenceDesk desk = Desks.tops(2, "cadence 3;edit 999;");
        due("a top behind a top", desk.path(1, EDIT), 1);
        CadenceDesk other = Desks.carried("width 1;frame 7 7;", "cadence 2;edit 999;");
        due("a bottom behind a top", other.path(1, EDIT), 0);
    }

    void p16_toTheNextPlaceItIsOfTheOtherParityToo() {
        CadenceDesk desk = Desks.carried(THREE, "cadence 2;edit 999;");
        // 10 20, 60 70, 30 90: without the second frame's top a bottom comes behind a bottom.
        desk.cut(2, 1);
        due("an edit", desk.all(1), 1);
        due("there", desk.edit(0), 2);
        due("cost", desk.all(0), 999);
    }

    void p16_anEditHasSeenZeroAndAnyPlaceAndStep() {
        CadenceDesk desk = Desks.carried(Desks.FILM, "cadence 2 3;");
        desk.cut(3, 1);
        int[] row = {1, 2, 0, 1, 40, 2, 1, 2};
        for (int what = 0; what < row.length; what++) {
            due("path(3, " + what + ")", desk.path(3, what), row[what]);
        }
    }

    void p16_anEditToWhatItWouldComeToIsNone() {
        CadenceDesk desk = Desks.carried(THREE, "cadence 2;edit 0;still 0;");
        duePath(desk, EDIT, 0, 0, 0, 0, 0, 0);
        due("edits", desk.all(1), 0);
    }

    // ---- 16: path, what a field costs

    void p16_anEditCostsZeroTo999() {
        for (int edit : new int[] {0, 1, 40, 998, 999}) {
            CadenceDesk desk = Desks.tops(2, "cadence 2;edit " + edit + ";");
            due("path(0, 4)", desk.path(0, COST), 0);
            due("path(1, 4)", desk.path(1, COST), edit);
            due("all(0)", desk.all(0), edit);
        }
    }

    void p16_aRepeatAlikeBySlackCostsNothing() {
        for (int slack : new int[] {0, 1, 5, 9}) {
            CadenceDesk desk = Desks.carried(THREE, "cadence 3;edit 999;slack " + slack + ";");
            for (int by : new int[] {slack, -slack, slack + 1, -slack - 1}) {
                desk.set(5, 0, 70 + by);
                int want = Math.abs(by) <= slack ? 0 : Math.abs(by);
                due("slack " + slack + ", by " + by, desk.path(5, COST), want);
                due("together", desk.all(0), want);
            }
        }
    }

    void p16_aRepeatCostsApartByMeasure() {
        String film = "width 2;frame 10 10 20 20;frame 60 60 70 70;frame 30 30 90 90;";
        String[] measures = {"sum", "most", "many"};
        int[] want = {7, 4, 2};
        for (int i = 0; i < measures.length; i++) {
            CadenceDesk desk = Desks.carried(film, "cadence 3;edit 999;still 999;measure " + measures[i] + ";");
            desk.set(5, 0, 73);
            desk.set(5, 1, 66);
            due(measures[i], desk.path(5, COST), want[i]);
        }
    }

    void p16_theDearestRepeatThereIs() {
        // 594 is the farthest that fields can be apart, so the bound of 999 is never met.
        String film = "width 6;frame" + " 50".repeat(6) + " 60".repeat(6) + ";frame" + " 40".repeat(6)
            + " 0".repeat(6) + ";frame" + " 20".repeat(6) + " 80".repeat(6) + ";";
        CadenceDesk desk = Desks.carried(film, "cadence 3;edit 999;still 999;");
        for (int k = 0; k < 6; k++) {
            desk.set(5, k, 99);
        }
        due("apart(3, 5)", desk.apart(3, 5), 594);
        due("path(5, 2)", desk.path(5, SEEN), 2);
        due("path(5, 4)", desk.path(5, COST), 594);
        due("all(0)", desk.all(0), 594);
    }

    void p16_alikeByASlackOfTheFarthest() {
        String film = "width 6;frame" + " 0".repeat(6) + " 99".repeat(6) + ";";
        CadenceDesk desk = Desks.carried(film, "cadence 3;");
        for (int k = 0; k < 6; k++) {
            desk.set(2, k, 99);
        }
        Check.rules(desk, "cadence 3;slack 594;still 1;");
        due("a repeat", desk.path(2, SEEN), 2);
        due("for nothing", desk.all(0), 0);
        Check.rules(desk, "cadence 3;slack 593;still 1;");
        due("no repeat", desk.path(2, SEEN), 0);
        due("for nothing", desk.all(0), 0);
    }

    void p16_whatStandsStillCostsStill() {
        for (int still : new int[] {0, 1, 10, 999}) {
            CadenceDesk desk = Desks.carried("width 1;frame 5 5;frame 5 5;", "cadence 2;edit 999;still " + still + ";");
            duePath(desk, COST, 0, 0, still, still);
            due("all(0)", desk.all(0), 2 * still);
        }
    }

    void p16_whatStandsStillIsAlikeBySlack() {
        for (int slack : new int[] {0, 1, 4}) {
            String rules = "cadence 2;edit 999;still 7;slack " + slack + ";";
            CadenceDesk desk = Desks.carried("width 1;frame 10 20;frame 50 60;", rules);
            desk.set(2, 0, 10 + slack);
            due("seen 0, alike by slack", desk.path(2, COST), 7);
            desk.set(2, 0, 11 + slack);
            due("seen 0, not alike", desk.path(2, COST), 0);
            desk.set(3, 0, 20 - slack);
            due("seen 1, alike by slack", desk.path(3, COST), 7);
            desk.set(3, 0, 19 - slack);
            due("seen 1, not alike", desk.path(3, COST), 0);
        }
    }

    void p16_theFirstTwoHaveNoFieldTwoAhead() {
        CadenceDesk desk = Desks.tops(3, "cadence 2;edit 40;still 10;");
        duePath(desk, COST, 0, 40, 50);
        CadenceDesk dark = Desks.told("width 1;frame 0 0;", "cadence 2;");
        for (int parity = 0; parity < 2; parity++) {
            dark.carry(0, parity);
            duePath(dark, COST, 0, 0);
            due("all(0)", dark.all(0), 0);
        }
    }

    void p16_ofAnotherParityNothingStandsStill() {
        CadenceDesk desk = Desks.carried("width 1;frame 5 5;frame 5 5;", "cadence 2;edit 40;still 10;");
        desk.cut(1, 1);
        // Top, top, bottom, all the same: the bottom's field two ahead is a top.
        duePath(desk, EDIT, 0, 1, 0);
        duePath(desk, COST, 0, 40, 0);
    }

    // ---- 16: the path of several

    void p16_leastCostThenFewestEdits() {
        // The second frame's third field is 65 from its first: an edit of 65 costs as much, one of 64 less.
        CadenceDesk desk = Desks.carried(THREE, "cadence 3;edit 65;");
        desk.set(5, 0, 5);
        due("cost", desk.all(0), 65);
        due("edits", desk.all(1), 0);
        Check.rules(desk, "cadence 3;edit 64;");
        due("cost", desk.all(0), 64);
        due("edits", desk.all(1), 1);
        Check.rules(desk, "cadence 3;edit 66;");
        due("cost", desk.all(0), 65);
        due("edits", desk.all(1), 0);
    }

    void p16_ofTheseTheLeastSeen() {
        // An edit at the second frame's second or third field costs the same: at the second its seen is less.
        CadenceDesk desk = Desks.carried(THREE, "cadence 3;edit 40;");
        desk.set(5, 0, 5);
        duePath(desk, PLACE, 0, 0, 0, 0, 0, 0, 0, 0, 0);
        duePath(desk, STEP, 0, 1, 2, 0, 1, 2, 0, 1, 2);
        duePath(desk, SEEN, 0, 1, 2, 0, 0, 1, 0, 1, 2);
        duePath(desk, EDIT, 0, 0, 0, 0, 1, 0, 0, 0, 0);
    }

    void p16_ofTheseAnEditLateIfGoingOnIsToALesserPlace() {
        // By 2 3, of three, two, two and three fields: the third frame edits, though the second could,
        // to the end of a 3; it goes on to place 0 instead.
        CadenceDesk desk = Desks.told("width 1;frame 1 2;frame 60 61;frame 5 8;frame 99 98;", "cadence 2 3;cadence 3 2 2;");
        desk.force(1);
        desk.carry(0, 0);
        desk.force(0);
        duePath(desk, PLACE, 1, 1, 1, 0, 0, 0, 0, 1, 1, 1);
        duePath(desk, STEP, 0, 1, 2, 0, 1, 0, 1, 0, 1, 2);
        duePath(desk, EDIT, 0, 0, 0, 0, 0, 1, 0, 0, 0, 0);
    }

    void p16_sixPlacesOfFiveStepsAreTheMost() {
        CadenceDesk desk = Desks.carried(Desks.longFilm(), "cadence 5 5 5 5 5 5;");
        due("all(0)", desk.all(0), 0);
        due("all(1)", desk.all(1), 0);
        for (int i = 0; i < 90; i++) {
            due("path(" + i + ", 0)", desk.path(i, PLACE), i / 5 % 6);
            due("path(" + i + ", 1)", desk.path(i, STEP), i % 5);
            due("path(" + i + ", 2)", desk.path(i, SEEN), i % 5);
        }
    }

    void p16_whatWasAskedBeforeDoesNotMatter() {
        String rules = "cadence 5 5 5 5 5 5;cadence 3 2;";
        for (int from : new int[] {0, 29, 44, 45, 60, 80, 88}) {
            CadenceDesk asked = Desks.carried(Desks.longFilm(), rules);
            CadenceDesk other = Desks.carried(Desks.longFilm(), rules);
            asked.all(0);
            asked.cut(from, 1);
            other.cut(from, 1);
            check.due("cut(" + from + ", 1)", Snapshot.brief(asked), Snapshot.brief(other));
            check.due("its edits", edits(asked), edits(Desks.carried(Desks.longFilm(), rules), from));
            asked.force(1);
            other.force(1);
            asked.guess(0);
            check.due("by another cadence", Snapshot.brief(asked), Snapshot.brief(other));
            asked.undo();
            other.undo();
            check.due("undone", Snapshot.brief(asked), Snapshot.brief(other));
        }
    }

    private static List<Integer> edits(CadenceDesk desk) {
        List<Integer> fields = new ArrayList<>();
        for (int i = 0; i < desk.all(1); i++) {
            fields.add(desk.edit(i));
        }
        return fields;
    }

    private static List<Integer> edits(CadenceDesk desk, int from) {
        desk.cut(from, 1);
        return edits(desk);
    }

    void p16_ofTheseTheLeastPlaceThenStep() {
        CadenceDesk desk = Desks.told("width 1;frame 10 20;", "cadence 3 2 3;");
        desk.carry(2, 0);
        duePath(desk, PLACE, 0, 0, 0);
        duePath(desk, STEP, 0, 1, 2);
        desk.cut(2, 1);
        duePath(desk, PLACE, 0, 0);
        duePath(desk, STEP, 0, 1);
        desk.cut(0, 1);
        due("one field: place", desk.path(0, PLACE), 0);
        due("one field: step", desk.path(0, STEP), 0);
        CadenceDesk tops = Desks.tops(3, "cadence 3 2 3;");
        duePath(tops, PLACE, 0, 0, 0);
        duePath(tops, STEP, 0, 0, 0);
    }

    // ---- 16: groups, kept and dropped

    void p16_theFirstOfEachParityIsKept() {
        CadenceDesk desk = Desks.carried(THREE, "cadence 5 4 3;");
        duePath(desk, GROUP, 0, 0, 0, 0, 0, 1, 1, 1, 1, 2, 2, 2);
        duePath(desk, KEPT, 1, 1, 0, 0, 0, 1, 1, 0, 0, 1, 1, 0);
        duePath(desk, FOUND, 0, 0, 0, 0, 0, 1, 1, 1, 1, 2, 2, 2);
    }

    void p16_anOrphanIsKept() {
        CadenceDesk desk = Desks.tops(4, "cadence 2;");
        duePath(desk, GROUP, 0, 1, 2, 3);
        duePath(desk, KEPT, 1, 1, 1, 1);
        duePath(desk, FOUND, 0, 1, 2, 3);
    }

    // ---- 17: all

    void p17_othersThanZeroToSix() {
        CadenceDesk desk = Desks.busy();
        for (int what = 0; what < 7; what++) {
            due("all(" + what + ")", desk.all(what) >= 0 ? 1 : 0, 1);
        }
        for (int what : new int[] {-1, -2, 7, 8, FAR, LOW}) {
            due("all(" + what + ")", desk.all(what), NONE);
            due("new: all(" + what + ")", new CadenceDesk().all(what), NONE);
        }
    }

    void p17_withoutFieldsThePathOfNone() {
        dueAll("new", new CadenceDesk(), 0, 0, 0, 0, 0, 0, 0);
        dueAll("a film", Desks.told(THREE), 0, 0, 0, 0, 0, 0, 0);
        CadenceDesk desk = Desks.busy();
        desk.all(0);
        desk.cut(0, 9);
        dueAll("all cut", desk, 0, 0, 0, 0, 0, 0, 0);
    }

    void p17_oneField() {
        dueAll("one", Desks.tops(1, "cadence 2 3;edit 999;still 999;"), 0, 0, 1, 0, 1, 0, 1);
    }

    void p17_theDearestPathOfNinety() {
        CadenceDesk desk = Desks.tops(90, "cadence 5 5 5 5 5 5;edit 999;still 999;mate 999;");
        dueAll("ninety tops", desk, 89 * 999 + 88 * 999, 89, 90, 0, 90, 0, 90);
        dueAll("edits for nothing", Desks.tops(90, "cadence 2;edit 0;still 0;"), 0, 89, 90, 0, 90, 0, 90);
    }

    void p17_theMostThatIsDropped() {
        dueAll("eighteen frames of five", Desks.full(), 0, 0, 18, 54, 0, 0, 18);
    }

    // ---- 18: edit

    void p18_noneSuchEdit() {
        CadenceDesk desk = Desks.tops(3, "cadence 2;");
        due("edit(0)", desk.edit(0), 1);
        due("edit(1)", desk.edit(1), 2);
        for (int i : new int[] {-1, -2, 2, 3, 90, FAR, LOW}) {
            due("edit(" + i + ")", desk.edit(i), NONE);
        }
    }

    void p18_withoutEditsOrFields() {
        due("new", new CadenceDesk().edit(0), NONE);
        due("no edits", Desks.full().edit(0), NONE);
        due("one field", Desks.tops(1, "cadence 2;").edit(0), NONE);
    }

    void p18_theMostEditsThereCanBe() {
        CadenceDesk desk = Desks.tops(90, "cadence 2;");
        due("edit(0)", desk.edit(0), 1);
        due("edit(88)", desk.edit(88), 89);
        due("edit(89)", desk.edit(89), NONE);
    }

    // ---- 19: group

    void p19_noneSuchGroup() {
        CadenceDesk desk = Desks.carried(THREE, "cadence 3;");
        due("group(2, 0)", desk.group(2, 0), 6);
        for (int group : new int[] {-1, -2, 3, 4, 90, FAR, LOW}) {
            for (int what = 0; what < 4; what++) {
                due("group(" + group + ", " + what + ")", desk.group(group, what), NO_GROUP);
            }
        }
        due("new", new CadenceDesk().group(0, 3), NO_GROUP);
    }

    void p19_othersThanZeroToThree() {
        CadenceDesk desk = Desks.carried(THREE, "cadence 3;");
        for (int what : new int[] {-1, -2, 4, 5, FAR, LOW}) {
            due("group(0, " + what + ")", desk.group(0, what), NO_GROUP);
        }
    }

    void p19_theFirstAndTheLast() {
        CadenceDesk desk = Desks.full();
        int[][] due = {{0, 5, 0, NONE}, {85, 5, 0, NONE}};
        for (int what = 0; what < 4; what++) {
            due("group(0, " + what + ")", desk.group(0, what), due[0][what]);
            due("group(17, " + what + ")", desk.group(17, what), due[1][what]);
            due("group(18, " + what + ")", desk.group(18, what), NO_GROUP);
        }
    }

    void p19_ninetyGroups() {
        CadenceDesk desk = Desks.tops(90, "cadence 2;mate 999;");
        int[] last = {89, 1, 1, NONE};
        for (int what = 0; what < 4; what++) {
            due("group(89, " + what + ")", desk.group(89, what), last[what]);
            due("group(90, " + what + ")", desk.group(90, what), NO_GROUP);
        }
    }

    void p19_anOrphanHasOneParityAlone() {
        CadenceDesk desk = Desks.told(FOUR);
        desk.carry(1, 0);
        due("three fields", desk.group(0, 2), 0);
        desk.cut(0, 1);
        due("two fields", desk.group(0, 2), 0);
        desk.cut(0, 1);
        due("one field", desk.group(0, 2), 1);
        due("how many", desk.group(0, 1), 1);
        due("the next group", desk.group(1, 2), 0);
        due("orphans", desk.all(4), 1);
    }

    void p19_twoOrphansOfOneParityAreNotMated() {
        CadenceDesk desk = Desks.tops(2, "cadence 2;mate 999;");
        due("group(0, 3)", desk.group(0, 3), NONE);
        due("group(1, 3)", desk.group(1, 3), NONE);
        due("orphans", desk.all(4), 2);
        due("pairs", desk.all(5), 0);
    }

    // ---- 20: found

    void p20_noneSuchFrame() {
        CadenceDesk desk = Desks.carried(THREE, "cadence 3;");
        due("found(2, 1, 0)", desk.found(2, 1, 0), 90);
        for (int frame : new int[] {-1, -2, 3, 4, 90, FAR, LOW}) {
            due("found(" + frame + ", 0, 0)", desk.found(frame, 0, 0), NONE);
        }
        due("without fields", Desks.told(THREE).found(0, 0, 0), NONE);
        due("new", new CadenceDesk().found(0, 0, 0), NONE);
    }

    void p20_noneSuchParity() {
        CadenceDesk desk = Desks.carried(THREE, "cadence 3;");
        for (int parity : new int[] {-1, -2, 2, 3, FAR, LOW}) {
            due("found(0, " + parity + ", 0)", desk.found(0, parity, 0), NONE);
        }
    }

    void p20_noneSuchSample() {
        CadenceDesk desk = Desks.carried("width 6;frame 1 2 3 4 5 6 7 8 9 10 11 12;", "cadence 2;");
        due("found(0, 0, 5)", desk.found(0, 0, 5), 6);
        due("found(0, 1, 5)", desk.found(0, 1, 5), 12);
        for (int k : new int[] {-1, -2, 6, 7, FAR, LOW}) {
            due("found(0, 0, " + k + ")", desk.found(0, 0, k), NONE);
        }
        due("narrow", Desks.carried(THREE, "cadence 3;").found(0, 0, 1), NONE);
    }

    void p20_ninetyFrames() {
        CadenceDesk desk = Desks.tops(90, "cadence 2;");
        due("found(89, 0, 0)", desk.found(89, 0, 0), 7);
        due("found(89, 1, 0)", desk.found(89, 1, 0), 7);
        due("found(90, 0, 0)", desk.found(90, 0, 0), NONE);
    }

    void p20_anOrphanHasTheSameRowForBoth() {
        CadenceDesk desk = Desks.carried("width 2;frame 1 2 3 4;", "cadence 2;");
        desk.cut(0, 1);
        due("a bottom alone: its top", desk.found(0, 0, 1), 4);
        due("a bottom alone: its bottom", desk.found(0, 1, 1), 4);
        desk.undo();
        desk.cut(1, 1);
        due("a top alone: its top", desk.found(0, 0, 1), 2);
        due("a top alone: its bottom", desk.found(0, 1, 1), 2);
    }

    void p20_whatIsDroppedIsNotFound() {
        CadenceDesk desk = Desks.carried(THREE, "cadence 4;slack 9;");
        desk.set(2, 0, 11);
        desk.set(3, 0, 21);
        due("the first top", desk.found(0, 0, 0), 10);
        due("the first bottom", desk.found(0, 1, 0), 20);
    }

    void p20_aBottomCanBeFirst() {
        CadenceDesk desk = Desks.told(THREE, "cadence 3;");
        desk.carry(0, 1);
        for (int f = 0; f < 3; f++) {
            due("top of " + f, desk.found(f, 0, 0), desk.frame(f, 0, 0));
            due("bottom of " + f, desk.found(f, 1, 0), desk.frame(f, 1, 0));
        }
    }

    // ---- 21: known

    void p21_noneSuchFoundFrame() {
        CadenceDesk desk = Desks.carried(THREE, "cadence 3;");
        due("known(2)", desk.known(2), 2);
        for (int frame : new int[] {-1, -2, 3, 4, 90, FAR, LOW}) {
            due("known(" + frame + ")", desk.known(frame), NONE);
        }
        due("new", new CadenceDesk().known(0), NONE);
        due("without fields", Desks.told(THREE).known(0), NONE);
    }

    void p21_noneIsJustAsIt() {
        CadenceDesk desk = Desks.carried("width 2;frame 1 2 3 4;", "cadence 2;");
        due("known(0)", desk.known(0), 0);
        for (int i = 0; i < 2; i++) {
            for (int k = 0; k < 2; k++) {
                desk.set(i, k, 50);
                due("a sample of field " + i + " is another", desk.known(0), NONE);
                desk.undo();
            }
        }
        due("known(0)", desk.known(0), 0);
    }

    void p21_darknessIsNotKnownOfItself() {
        CadenceDesk desk = Desks.carried("width 1;frame 1 2;", "cadence 2;");
        desk.set(0, 0, 0);
        desk.set(1, 0, 0);
        due("found(0, 0, 0)", desk.found(0, 0, 0), 0);
        due("known(0)", desk.known(0), NONE);
    }

    void p21_theFirstOfThoseThatAre() {
        CadenceDesk desk = Desks.carried("width 1;frame 1 2;frame 30 40;frame 1 2;frame 30 40;", "cadence 2;");
        int[] known = {0, 1, 0, 1};
        for (int f = 0; f < 4; f++) {
            due("known(" + f + ")", desk.known(f), known[f]);
        }
    }

    void p21_theLastFrameOfTwenty() {
        CadenceDesk desk = Desks.carried(Desks.longFilm(), "cadence 2;");
        due("known(19)", desk.known(19), 19);
        due("known(20)", desk.known(20), NONE);
    }

    // ---- 22: restored

    void p22_noneWithoutAFilm() {
        CadenceDesk desk = new CadenceDesk();
        due("new", desk.restored(), NONE);
        Check.rules(desk, "cadence 2;");
        due("rules alone", desk.restored(), NONE);
        Check.film(desk, "width 9;");
        due("a fault", desk.restored(), NONE);
    }

    void p22_zeroWithoutFields() {
        due("a film", Desks.told(THREE).restored(), 0);
        CadenceDesk desk = Desks.carried(THREE, "cadence 3;");
        due("all", desk.restored(), 3);
        desk.cut(0, 9);
        due("all cut", desk.restored(), 0);
    }

    void p22_darknessIsNotRestoredOfItself() {
        CadenceDesk desk = Desks.told("width 1;frame 0 0;frame 50 60;", "cadence 2;");
        due("no fields", desk.restored(), 0);
        desk.carry(0, 0);
        due("both", desk.restored(), 2);
        desk.cut(0, 2);
        due("the other alone", desk.restored(), 1);
    }

    void p22_allOfTwenty() {
        CadenceDesk desk = Desks.carried(Desks.longFilm(), "cadence 2;");
        due("all", desk.restored(), 20);
        desk.cut(38, 2);
        due("without the last", desk.restored(), 19);
        desk.cut(0, 2);
        due("without the first", desk.restored(), 18);
    }

    void p22_eachOnceAtMost() {
        CadenceDesk desk = Desks.carried("width 1;frame 7 50;frame 7 50;", "cadence 2;still 0;");
        due("two of two", desk.restored(), 2);
        desk.doubled(0, 4);
        due("two of four", desk.restored(), 2);
        desk.cut(0, 6);
        due("found once", desk.all(6), 1);
        due("one of one", desk.restored(), 1);
    }

    void p22_inOneOrder() {
        CadenceDesk desk = Desks.carried("width 1;frame 10 20;frame 40 50;frame 70 80;", "cadence 2;still 0;");
        desk.doubled(0, 6);
        // 0 1 2 0 1 2
        due("twice", desk.restored(), 3);
        desk.cut(0, 4);
        // 2 0 1 2
        due("from the second on", desk.restored(), 3);
        desk.cut(6, 2);
        // 2 0 1
        due("the last is first", desk.restored(), 2);
        desk.cut(2, 2);
        // 2 1
        due("the other way", desk.restored(), 1);
    }

    void p22_allSamplesTheSame() {
        CadenceDesk desk = Desks.carried("width 2;frame 1 2 3 4;frame 50 60 70 80;", "cadence 2;");
        desk.set(3, 1, 79);
        due("one is not", desk.restored(), 1);
    }

    // ---- 23: costs

    void p23_noneSuchCadence() {
        CadenceDesk desk = Desks.carried(THREE, "cadence 2;cadence 3;cadence 4;cadence 5;");
        for (int cadence = 0; cadence < 4; cadence++) {
            desk.force(cadence);
            due("as by the one in force", desk.costs(cadence), desk.all(0));
        }
        for (int cadence : new int[] {-1, -2, 4, 5, FAR, LOW}) {
            due("costs(" + cadence + ")", desk.costs(cadence), NONE);
        }
        due("new", new CadenceDesk().costs(1), NONE);
    }

    void p23_withoutFieldsZero() {
        due("new", new CadenceDesk().costs(0), 0);
        CadenceDesk desk = Desks.busy();
        desk.costs(0);
        desk.cut(0, 9);
        due("all cut", desk.costs(0), 0);
        due("all cut", desk.costs(1), 0);
    }

    void p23_theForceAndThePathStay() {
        CadenceDesk desk = Desks.busy();
        for (int cadence = -1; cadence < 4; cadence++) {
            desk.costs(cadence);
        }
        check.due("all", Snapshot.whole(desk), Snapshot.whole(Desks.busy()));
    }

    void p23_theDearestOfNinety() {
        CadenceDesk desk = Desks.tops(90, "cadence 5 5 5 5 5 5;edit 999;still 999;");
        due("costs(0)", desk.costs(0), 176823);
    }

    // ---- 24: guess

    void p24_othersThanZeroToTwo() {
        CadenceDesk desk = Desks.busy();
        for (int what : new int[] {-1, -2, 3, 4, FAR, LOW}) {
            due("guess(" + what + ")", desk.guess(what), NONE);
            due("new: guess(" + what + ")", new CadenceDesk().guess(what), NONE);
        }
    }

    void p24_withoutFields() {
        CadenceDesk desk = Desks.told(THREE, "cadence 5;cadence 2;cadence 3;cadence 4;");
        desk.force(2);
        due("guess(0)", desk.guess(0), 0);
        due("guess(1)", desk.guess(1), NONE);
        due("guess(2)", desk.guess(2), NONE);
        desk.carry(0, 0);
        due("guess(0)", desk.guess(0), 2);
        desk.cut(0, 9);
        due("all cut: guess(0)", desk.guess(0), 0);
        due("all cut: guess(1)", desk.guess(1), NONE);
        due("all cut: guess(2)", desk.guess(2), NONE);
    }

    void p24_theLeastOfFourEachTime() {
        CadenceDesk desk = Desks.told(Desks.longFilm(), "cadence 2;cadence 3;cadence 4;cadence 5;edit 999;");
        for (int cadence = 0; cadence < 4; cadence++) {
            desk.force(cadence);
            desk.carry(0, 0);
            for (int force = 0; force < 4; force++) {
                desk.force(force);
                due("guess(0)", desk.guess(0), cadence);
            }
        }
    }

    void p24_ofSeveralTheFirst() {
        CadenceDesk desk = Desks.carried(THREE, "cadence 3;");
        Check.rules(desk, "cadence 2;cadence 3 3;cadence 3;cadence 3;");
        due("costs(1)", desk.costs(1), 0);
        due("costs(3)", desk.costs(3), 0);
        due("guess(0)", desk.guess(0), 1);
        Check.rules(desk, "cadence 3;cadence 3;cadence 3;cadence 3;");
        due("guess(0)", desk.guess(0), 0);
    }

    void p24_oneCadenceAlone() {
        CadenceDesk desk = Desks.told(FOUR);
        desk.carry(1, 0);
        due("guess(1), asked first", desk.guess(1), 1);
        desk.cut(0, 1);
        due("guess(2), asked first", desk.guess(2), 1);
        due("guess(1)", desk.guess(1), 1);
        due("guess(0)", desk.guess(0), 0);
    }

    void p24_theLastPlaceAndStep() {
        CadenceDesk desk = Desks.told(Desks.longFilm(), "cadence 2;cadence 5 5 5 5 5 4;");
        desk.force(1);
        desk.carry(5, 0);
        desk.force(0);
        due("guess(0)", desk.guess(0), 1);
        due("guess(1)", desk.guess(1), 5);
        due("guess(2)", desk.guess(2), 0);
        desk.cut(0, 3);
        due("guess(1)", desk.guess(1), 5);
        due("guess(2)", desk.guess(2), 3);
        desk.cut(0, 1);
        due("guess(1)", desk.guess(1), 0);
        due("guess(2)", desk.guess(2), 0);
    }

    void p24_theForceAndThePathStay() {
        CadenceDesk desk = Desks.busy();
        for (int what = -1; what < 4; what++) {
            desk.guess(what);
        }
        check.due("all", Snapshot.whole(desk), Snapshot.whole(Desks.busy()));
    }

    // ---- 25: anew

    void p25_noneSuchCadence() {
        CadenceDesk desk = Desks.carried(THREE, "cadence 2;cadence 3;cadence 4;cadence 5;");
        desk.force(1);
        desk.carry(0, 0);
        for (int cadence = 0; cadence < 4; cadence++) {
            due("anew(" + cadence + ", 0, -1)", desk.anew(cadence, 0, NONE), 3 * (2 + cadence));
        }
        for (int cadence : new int[] {-1, -2, 4, 5, FAR, LOW}) {
            due("anew(" + cadence + ", 0, -1)", desk.anew(cadence, 0, NONE), NONE);
            due("anew(" + cadence + ", 0, -2)", desk.anew(cadence, 0, ASKS_PARITY), NONE);
            due("anew(" + cadence + ", 0, 0)", desk.anew(cadence, 0, 0), NONE);
        }
    }

    void p25_noneSuchField() {
        CadenceDesk desk = Desks.carried(THREE, "cadence 3;cadence 2;");
        due("anew(1, 5, 0)", desk.anew(1, 5, 0), 90);
        due("anew(1, 5, -2)", desk.anew(1, 5, ASKS_PARITY), 1);
        for (int i : new int[] {-1, -2, 6, 7, 90, FAR, LOW}) {
            due("anew(1, " + i + ", 0)", desk.anew(1, i, 0), NONE);
            due("anew(1, " + i + ", -2)", desk.anew(1, i, ASKS_PARITY), NONE);
        }
    }

    void p25_noneSuchSample() {
        CadenceDesk desk = Desks.carried("width 6;frame 1 2 3 4 5 6 7 8 9 10 11 12;", "cadence 2;");
        due("anew(0, 1, 5)", desk.anew(0, 1, 5), 12);
        for (int k : new int[] {-3, -4, 6, 7, FAR, LOW}) {
            due("anew(0, 0, " + k + ")", desk.anew(0, 0, k), NONE);
        }
        due("narrow", Desks.carried(THREE, "cadence 3;").anew(0, 0, 1), NONE);
    }

    void p25_howManyWithoutAskingI() {
        CadenceDesk desk = Desks.carried(THREE, "cadence 3;");
        for (int i : new int[] {-1, -2, 0, 8, 9, 90, FAR, LOW}) {
            due("anew(0, " + i + ", -1)", desk.anew(0, i, NONE), 9);
        }
    }

    void p25_withoutFields() {
        for (CadenceDesk desk : new CadenceDesk[] {new CadenceDesk(), Desks.told(THREE)}) {
            due("anew(0, 0, -1)", desk.anew(0, 0, NONE), 0);
            due("anew(0, 0, -2)", desk.anew(0, 0, ASKS_PARITY), NONE);
            due("anew(0, 0, 0)", desk.anew(0, 0, 0), NONE);
            due("anew(1, 0, -1)", desk.anew(1, 0, NONE), NONE);
        }
    }

    void p25_ninetyFieldsAreTheMost() {
        int[] many = {85, 90, 90, 90};
        for (int tops = 17; tops <= 20; tops++) {
            CadenceDesk desk = Desks.tops(tops, "cadence 5;");
            int size = many[tops - 17];
            due("frames", desk.all(6), tops);
            due("how many", desk.anew(0, 0, NONE), size);
            due("the last one", desk.anew(0, size - 1, 0), 7);
            due("no more", desk.anew(0, size, 0), NONE);
            due("no more", desk.anew(0, size, ASKS_PARITY), NONE);
        }
        CadenceDesk desk = Desks.tops(90, "cadence 5 5 5 5 5 5;");
        due("of ninety frames", desk.anew(0, 0, NONE), 90);
    }

    void p25_fromPlaceZeroOnFirstATop() {
        CadenceDesk desk = Desks.told(FOUR);
        desk.carry(1, 1);
        int[] samples = {10, 20, 40, 50, 40, 80, 70, 5, 95, 5};
        due("how many", desk.anew(0, 0, NONE), 10);
        for (int i = 0; i < samples.length; i++) {
            due("anew(0, " + i + ", 0)", desk.anew(0, i, 0), samples[i]);
            due("anew(0, " + i + ", -2)", desk.anew(0, i, ASKS_PARITY), i % 2);
        }
    }

    void p25_behindTheLastNumberTheFirst() {
        CadenceDesk desk = Desks.carried(FOUR, "cadence 2;cadence 3 4;");
        int[] samples = {10, 20, 10, 50, 40, 50, 40, 80, 70, 80, 95, 5, 95, 5};
        due("how many", desk.anew(1, 0, NONE), samples.length);
        for (int i = 0; i < samples.length; i++) {
            due("anew(1, " + i + ", 0)", desk.anew(1, i, 0), samples[i]);
        }
    }

    void p25_theFieldsStay() {
        CadenceDesk desk = Desks.busy();
        for (int cadence = -1; cadence < 3; cadence++) {
            for (int k = -3; k < 3; k++) {
                desk.anew(cadence, 0, k);
            }
        }
        check.due("all", Snapshot.whole(desk), Snapshot.whole(Desks.busy()));
    }

    // ---- 26: isClean

    void p26_falseForOthers() {
        CadenceDesk desk = Desks.carried(THREE, "cadence 3;cadence 3;");
        check.due("isClean(0)", desk.isClean(0), true);
        check.due("isClean(1)", desk.isClean(1), true);
        for (int cadence : new int[] {-1, -2, 2, 3, 4, FAR, LOW}) {
            check.due("isClean(" + cadence + ")", desk.isClean(cadence), false);
            check.due("new: isClean(" + cadence + ")", new CadenceDesk().isClean(cadence), false);
        }
    }

    void p26_withoutFieldsNoneAreTheSame() {
        check.due("new", new CadenceDesk().isClean(0), true);
        check.due("new, none such", new CadenceDesk().isClean(1), false);
        CadenceDesk desk = Desks.busy();
        desk.cut(0, 9);
        check.due("all cut", desk.isClean(0), true);
        check.due("all cut", desk.isClean(1), true);
        check.due("all cut, none such", desk.isClean(2), false);
    }

    void p26_paritiesToo() {
        CadenceDesk desk = Desks.told("width 1;frame 5 5;frame 60 60;", "cadence 2;");
        desk.carry(0, 1);
        check.due("a bottom first", desk.isClean(0), false);
        desk.carry(0, 0);
        check.due("a top first", desk.isClean(0), true);
    }

    void p26_theFirstFieldsParityAlone() {
        CadenceDesk desk = Desks.told("width 1;frame 30 7;", "cadence 3;cadence 2;");
        desk.carry(0, 1);
        desk.doubled(0, 1);
        // Bottom 7, then bottom 7, top 30, bottom 7 of one frame; anew: top 7, bottom 7, top 30, bottom 7.
        due("frames", desk.all(6), 2);
        due("anew", desk.anew(1, 0, NONE), 4);
        for (int i = 0; i < 4; i++) {
            due("sample of " + i, desk.anew(1, i, 0), Check.fieldOf(desk, i, 0));
        }
        check.due("isClean(1)", desk.isClean(1), false);
    }

    void p26_oneSampleOrOneFieldMakesTheDifference() {
        CadenceDesk desk = Desks.carried("width 6;frame 1 2 3 4 5 6 7 8 9 10 11 12;", "cadence 3;slack 1;");
        check.due("clean", desk.isClean(0), true);
        desk.set(2, 5, 7);
        due("the third is a repeat", desk.path(2, SEEN), 2);
        check.due("the last sample of the last field", desk.isClean(0), false);
        desk.undo();
        desk.cut(2, 1);
        check.due("one fewer", desk.isClean(0), false);
        desk.undo();
        desk.doubled(2, 1);
        check.due("one more", desk.isClean(0), false);
        desk.undo();
        check.due("clean again", desk.isClean(0), true);
    }

    void p26_fromPlaceZeroOn() {
        CadenceDesk desk = Desks.told(FOUR);
        desk.carry(1, 0);
        check.due("from place 1 on", desk.isClean(0), false);
        desk.carry(0, 0);
        check.due("from place 0 on", desk.isClean(0), true);
    }

    void p26_whatWasLeftOutIsLeftOutAnew() {
        check.due("eighteen frames of five", Desks.full().isClean(0), true);
        CadenceDesk desk = Desks.carried(Desks.longFilm(), "cadence 4 5 5 5 5 5;");
        due("fields", desk.count(2), 90);
        due("frames", desk.all(6), 19);
        due("the last frame has three fields", desk.group(18, 1), 3);
        check.due("its fourth is left out again", desk.isClean(0), true);
        desk.cut(89, 1);
        check.due("one fewer", desk.isClean(0), false);
    }

    // ---- 27: count

    void p27_othersThanZeroToEleven() {
        for (int what : new int[] {-1, -2, 12, 13, FAR, LOW}) {
            due("count(" + what + ")", Desks.busy().count(what), NONE);
            due("new: count(" + what + ")", new CadenceDesk().count(what), NONE);
        }
    }

    void p27_widthIsZeroWithoutAFilm() {
        CadenceDesk desk = new CadenceDesk();
        due("new", desk.count(0), 0);
        Check.film(desk, "width 6;");
        due("a fault", desk.count(0), 0);
        Check.film(desk, "width 6;frame 1 2 3 4 5 6 7 8 9 10 11 12;");
        due("a film", desk.count(0), 6);
        Check.film(desk, "width 1;frame 1;");
        due("a fault", desk.count(0), 6);
    }

    void p27_theLeastAndTheMostOfEach() {
        int[] none = {0, 0, 0, 1, 0, 0, 40, 10, 0, 0, 0, 0};
        CadenceDesk desk = new CadenceDesk();
        for (int what = 0; what < none.length; what++) {
            due("new: count(" + what + ")", desk.count(what), none[what]);
        }
        Check.film(desk, "width 6;" + "frame 1 2 3 4 5 6 7 8 9 0 1 2;".repeat(20));
        Check.rules(desk, "cadence 2;cadence 2;cadence 2;cadence 5;slack 999;edit 999;still 999;mate 999;measure many;");
        desk.force(3);
        for (int i = 0; i < 14; i++) {
            desk.carry(0, 0);
        }
        Check.feed(desk, " ".repeat(900));
        int[] most = {6, 20, 90, 4, 3, 999, 999, 999, 999, 2, 12, 900};
        for (int what = 0; what < most.length; what++) {
            due("full: count(" + what + ")", desk.count(what), most[what]);
        }
        desk.film(0);
        Check.rules(desk, "cadence 2;slack 0;edit 0;still 0;mate 0;measure sum;");
        int[] least = {6, 20, 90, 1, 0, 0, 0, 0, 0, 0, 0, 0};
        for (int what = 0; what < least.length; what++) {
            due("least: count(" + what + ")", desk.count(what), least[what]);
        }
    }
}
