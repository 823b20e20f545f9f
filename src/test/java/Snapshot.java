import java.util.ArrayList;
import java.util.List;

/** All that a desk answers, to tell whether a call left everything as it was. */
final class Snapshot {
    private static final int NONE = CadenceDesk.NONE;

    private final CadenceDesk desk;
    private final List<Integer> answers = new ArrayList<>();

    private Snapshot(CadenceDesk desk) {
        this.desk = desk;
    }

    /** Every answer, then what each undo brings back: the desk has no acts any more behind it. */
    static List<Integer> whole(CadenceDesk desk) {
        Snapshot shot = new Snapshot(desk);
        shot.askCounts();
        shot.askTold();
        shot.askFields();
        shot.askPath();
        shot.askGroups();
        shot.askAnew();
        for (int left = desk.count(10); left > 0; left--) {
            shot.answers.add(desk.undo());
            shot.askFields();
        }
        return shot.answers;
    }

    /** The counts, the fields and the path's sums alone: for a desk that is full. */
    static List<Integer> brief(CadenceDesk desk) {
        Snapshot shot = new Snapshot(desk);
        shot.askCounts();
        shot.askFields();
        for (int what = 0; what < 7; what++) {
            shot.answers.add(desk.all(what));
        }
        return shot.answers;
    }

    private void askCounts() {
        for (int what = 0; what < 12; what++) {
            answers.add(desk.count(what));
        }
    }

    private void askTold() {
        for (int f = 0; f < desk.count(1); f++) {
            for (int k = 0; k < desk.count(0); k++) {
                answers.add(desk.frame(f, 0, k));
                answers.add(desk.frame(f, 1, k));
            }
        }
        for (int c = 0; c < desk.count(3); c++) {
            for (int i = NONE; i < desk.cadence(c, NONE); i++) {
                answers.add(desk.cadence(c, i));
            }
        }
    }

    private void askFields() {
        for (int i = 0; i < desk.count(2); i++) {
            for (int k = NONE; k < desk.count(0); k++) {
                answers.add(Check.fieldOf(desk, i, k));
            }
        }
    }

    private void askPath() {
        for (int i = 0; i < desk.count(2); i++) {
            for (int what = 0; what < 8; what++) {
                answers.add(desk.path(i, what));
            }
        }
        for (int what = 0; what < 7; what++) {
            answers.add(desk.all(what));
        }
        for (int i = 0; i < desk.all(1); i++) {
            answers.add(desk.edit(i));
        }
    }

    private void askGroups() {
        for (int g = 0; g < desk.all(2); g++) {
            for (int what = 0; what < 4; what++) {
                answers.add(desk.group(g, what));
            }
        }
        for (int f = 0; f < desk.all(6); f++) {
            answers.add(desk.known(f));
            for (int k = 0; k < desk.count(0); k++) {
                answers.add(desk.found(f, 0, k));
                answers.add(desk.found(f, 1, k));
            }
        }
        answers.add(desk.restored());
    }

    private void askAnew() {
        for (int what = 0; what < 3; what++) {
            answers.add(desk.guess(what));
        }
        for (int c = 0; c < desk.count(3); c++) {
            answers.add(desk.costs(c));
            answers.add(desk.isClean(c) ? 1 : 0);
            int many = desk.anew(c, 0, NONE);
            answers.add(many);
            for (int i = 0; i < many; i++) {
                answers.add(desk.anew(c, i, 0));
            }
        }
    }
}
