import java.lang.reflect.Field;
import java.lang.reflect.Method;
import java.util.Arrays;

/**
 * What the terms say of mated groups (for promises 16, 17, 19, 20). By the tie rules no path has
 * two orphans of other parities side by side, so no run of calls can show a pair: here the class's
 * own path is told, from inside, that every field is seen 0, and the groups are gathered anew.
 */
public final class MatedTest {
    private static final int NONE = CadenceDesk.NONE;

    /** Tops 10 and 60, bottoms 13 and 70. */
    private static final String FILM = "width 1;frame 10 13;frame 60 70;";

    private final Check check = new Check("MatedTest");

    public static void main(String[] args) {
        MatedTest test = new MatedTest();
        test.check.runPromises(test);
    }

    private void due(String call, long got, long want) {
        check.due(call, got, want);
    }

    private static Object inside(Object owner, String name) throws ReflectiveOperationException {
        Field field = owner.getClass().getDeclaredField(name);
        field.setAccessible(true);
        return field.get(owner);
    }

    /** Makes a group of each field. */
    private static CadenceDesk parted(CadenceDesk desk) {
        desk.all(0);
        try {
            Object track = inside(desk, "track");
            Object reel = inside(desk, "reel");
            Object rules = inside(desk, "ruling");
            Object groups = inside(desk, "groups");
            Arrays.fill((int[]) inside(track, "seens"), 0);
            Method gather = groups.getClass().getDeclaredMethod("gather", track.getClass(), reel.getClass(), rules.getClass());
            gather.setAccessible(true);
            gather.invoke(groups, track, reel, rules);
        } catch (ReflectiveOperationException e) {
            throw new IllegalStateException(e);
        }
        return desk;
    }

    private void dueMates(CadenceDesk desk, int... mates) {
        for (int g = 0; g < mates.length; g++) {
            due("group(" + g + ", 2)", desk.group(g, 2), 1);
            due("group(" + g + ", 3)", desk.group(g, 3), mates[g]);
        }
        due("orphans, mated or not", desk.all(4), mates.length);
    }

    void p19_apartByNoMoreThanMate() {
        dueMates(parted(Desks.carried(FILM, "cadence 2;mate 2;")), NONE, NONE, NONE, NONE);
        dueMates(parted(Desks.carried(FILM, "cadence 2;mate 3;")), 1, 0, NONE, NONE);
        dueMates(parted(Desks.carried(FILM, "cadence 2;mate 9;")), 1, 0, NONE, NONE);
        dueMates(parted(Desks.carried(FILM, "cadence 2;mate 10;")), 1, 0, 3, 2);
        dueMates(parted(Desks.carried(FILM, "cadence 2;mate 999;")), 1, 0, 3, 2);
    }

    void p19_mateZeroAsksForTheSame() {
        dueMates(parted(Desks.carried("width 1;frame 5 5;", "cadence 2;")), 1, 0);
        dueMates(parted(Desks.carried("width 1;frame 5 6;", "cadence 2;")), NONE, NONE);
    }

    void p19_apartIsByMeasure() {
        dueMates(parted(Desks.carried(FILM, "cadence 2;mate 0;measure many;")), NONE, NONE, NONE, NONE);
        dueMates(parted(Desks.carried(FILM, "cadence 2;mate 1;measure many;")), 1, 0, 3, 2);
    }

    void p19_oneThatIsMatedIsNotMatedAgain() {
        CadenceDesk desk = Desks.carried(FILM, "cadence 2;mate 999;");
        desk.cut(3, 1);
        dueMates(parted(desk), 1, 0, NONE);
        CadenceDesk three = Desks.carried("width 1;frame 10 20;", "cadence 3;mate 999;");
        dueMates(parted(three), 1, 0, NONE);
    }

    void p19_ofTheOtherParityAlone() {
        CadenceDesk desk = Desks.carried("width 1;frame 5 5;frame 5 5;", "cadence 2;mate 999;");
        desk.cut(1, 1);
        // Top, top, bottom: the first finds no mate, the second does.
        dueMates(parted(desk), NONE, 2, 1);
    }

    void p19_theFirstPairThatCanBe() {
        // 10 13 12 70: the first two are mated, though the second and third are nearer.
        CadenceDesk desk = Desks.carried("width 1;frame 10 13;frame 12 70;", "cadence 2;mate 3;");
        dueMates(parted(desk), 1, 0, NONE, NONE);
        // 9 13 12 70: the first two are too far apart, so the second and third are.
        CadenceDesk other = Desks.carried("width 1;frame 9 13;frame 12 70;", "cadence 2;mate 3;");
        dueMates(parted(other), NONE, 2, 1, NONE);
    }

    void p17_pairsAndFoundFrames() {
        CadenceDesk desk = parted(Desks.carried(FILM, "cadence 2;mate 3;"));
        due("groups", desk.all(2), 4);
        due("pairs", desk.all(5), 1);
        due("found frames", desk.all(6), 3);
        CadenceDesk both = parted(Desks.carried(FILM, "cadence 2;mate 10;"));
        due("pairs", both.all(5), 2);
        due("found frames", both.all(6), 2);
    }

    void p16_twoMatedOnesAreThereForOneFrame() {
        CadenceDesk desk = parted(Desks.carried(FILM, "cadence 2;mate 3;"));
        int[] frames = {0, 0, 1, 2};
        for (int i = 0; i < frames.length; i++) {
            due("path(" + i + ", 5)", desk.path(i, 5), i);
            due("path(" + i + ", 7)", desk.path(i, 7), frames[i]);
        }
    }

    void p20_topAndBottomAreWhatIsKept() {
        int[][] frames = {{10, 13}, {60, 60}, {70, 70}};
        CadenceDesk desk = parted(Desks.carried(FILM, "cadence 2;mate 3;"));
        for (int f = 0; f < frames.length; f++) {
            due("top of " + f, desk.found(f, 0, 0), frames[f][0]);
            due("bottom of " + f, desk.found(f, 1, 0), frames[f][1]);
        }
        due("found(3, 0, 0)", desk.found(3, 0, 0), NONE);
        CadenceDesk bottomFirst = Desks.told(FILM, "cadence 2;mate 3;");
        bottomFirst.carry(0, 1);
        parted(bottomFirst);
        due("top behind its bottom", bottomFirst.found(0, 0, 0), 10);
        due("bottom ahead of its top", bottomFirst.found(0, 1, 0), 13);
    }

    void p22_aMatedFrameIsRestored() {
        CadenceDesk desk = parted(Desks.carried(FILM, "cadence 2;mate 3;"));
        due("known(0)", desk.known(0), 0);
        due("known(1)", desk.known(1), NONE);
        due("restored()", desk.restored(), 1);
        due("anew", desk.anew(0, 0, NONE), 6);
    }
}
