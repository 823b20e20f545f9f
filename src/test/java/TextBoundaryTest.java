/**
 * Promises 1 to 7 and the first part of the terms (the tape, its tokens, the film, the rules,
 * their faults): a test for each sentence that names a boundary.
 */
public final class TextBoundaryTest {
    private static final int NONE = CadenceDesk.NONE;
    private static final int FAR = Integer.MAX_VALUE;
    private static final int LOW = Integer.MIN_VALUE;

    private static final int NO_TOKEN = 1;
    private static final int BOUNDS = 2;
    private static final int TWICE = 3;
    private static final int TOO_MANY = 4;

    private static final String SHORT_FILM = "width 1;frame 1 2;";
    private static final String[] PLAIN = {"slack", "edit", "still", "mate"};
    private static final int[] PLAIN_COUNT = {5, 6, 7, 8};

    private final Check check = new Check("TextBoundaryTest");

    public static void main(String[] args) {
        TextBoundaryTest test = new TextBoundaryTest();
        test.check.runPromises(test);
    }

    private void due(String call, long got, long want) {
        check.due(call, got, want);
    }

    private void dueFilm(String text, int want) {
        due("film of " + text, Check.film(new CadenceDesk(), text), want);
    }

    private void dueRules(String text, int want) {
        due("rules of " + text, Check.rules(new CadenceDesk(), text), want);
    }

    private void dueFilmFault(String text, int place, int kind) {
        dueFilm(text, Check.fault(place, kind));
    }

    private void dueRulesFault(String text, int place, int kind) {
        dueRules(text, Check.fault(place, kind));
    }

    /** What is as told: nothing but the tape may differ between the two. */
    private void dueAlike(String when, CadenceDesk got, CadenceDesk want) {
        check.due(when, Snapshot.whole(got), Snapshot.whole(want));
    }

    // ---- 1: a new object

    void p01_atFirstThereIsNoFilm() {
        CadenceDesk desk = new CadenceDesk();
        due("count(0)", desk.count(0), 0);
        due("count(1)", desk.count(1), 0);
        due("frame(0, 0, 0)", desk.frame(0, 0, 0), NONE);
        due("carry(0, 0)", desk.carry(0, 0), NONE);
        due("restored()", desk.restored(), NONE);
    }

    void p01_atFirstThereAreNoFields() {
        CadenceDesk desk = new CadenceDesk();
        due("count(2)", desk.count(2), 0);
        due("field(0, -1)", Check.fieldOf(desk, 0, NONE), Check.THROWS);
        due("field(0, 0)", Check.fieldOf(desk, 0, 0), Check.THROWS);
        due("apart(0, 0)", desk.apart(0, 0), NONE);
        due("cut(0, 1)", desk.cut(0, 1), NONE);
        due("doubled(0, 1)", desk.doubled(0, 1), NONE);
        due("noise(1, 1)", desk.noise(1, 1), NONE);
        due("set(0, 0, 1)", desk.set(0, 0, 1), NONE);
    }

    void p01_atFirstTheRulesAreAsTold() {
        CadenceDesk desk = new CadenceDesk();
        int[] counts = {1, 0, 0, 40, 10, 0, 0};
        for (int i = 0; i < counts.length; i++) {
            due("count(" + (3 + i) + ")", desk.count(3 + i), counts[i]);
        }
        due("cadence(0, -1)", desk.cadence(0, NONE), 2);
        due("cadence(0, 0)", desk.cadence(0, 0), 2);
        due("cadence(0, 1)", desk.cadence(0, 1), 3);
        due("cadence(1, -1)", desk.cadence(1, NONE), NONE);
    }

    void p01_atFirstNothingCanBeUndoneAndTheTapeIsEmpty() {
        CadenceDesk desk = new CadenceDesk();
        due("count(10)", desk.count(10), 0);
        due("undo()", desk.undo(), NONE);
        due("count(11)", desk.count(11), 0);
        due("film(1)", desk.film(1), NONE);
        due("rules(1)", desk.rules(1), NONE);
    }

    void p01_whatOneObjectIsToldAnotherIsNot() {
        CadenceDesk other = new CadenceDesk();
        Desks.busy().feed(1, 2, 3, 4, 5);
        dueAlike("another one", other, new CadenceDesk());
    }

    // ---- 2: feed

    void p02_nineHundredBytesCome() {
        CadenceDesk desk = new CadenceDesk();
        for (int i = 1; i <= 45; i++) {
            due("feed " + i, desk.feed(i, i, i, i, i), 20 * i);
            due("count(11)", desk.count(11), 20 * i);
        }
    }

    void p02_noneComeIfThereWouldBeMoreThan900() {
        CadenceDesk desk = new CadenceDesk();
        String text = " ".repeat(882) + SHORT_FILM;
        due("fed", Check.feed(desk, text), 900);
        due("once more", desk.feed(0x66666666, 0, 0, 0, 0), NONE);
        due("and again", desk.feed(LOW, FAR, -1, 0, 1), NONE);
        due("count(11)", desk.count(11), 900);
        due("the bytes are as they were", desk.film(900), 1);
        due("the last one, too", desk.frame(0, 1, 0), 2);
    }

    void p02_whatIsRefusedHasNotComeLater() {
        CadenceDesk desk = new CadenceDesk();
        Check.feed(desk, SHORT_FILM + " ".repeat(882));
        Check.feed(desk, SHORT_FILM);
        due("film(901)", desk.film(901), NONE);
        due("film(900)", desk.film(900), 1);
        due("count(11)", desk.count(11), 0);
    }

    void p02_ofEachNumberTheHighestByteIsFirst() {
        CadenceDesk desk = new CadenceDesk();
        desk.feed(0x77696474, 0x68312020, 0x3B667261, 0x6D653132, 0x2033343B);
        due("width1  ;frame12 34;", desk.film(20), 1);
        due("frame(0, 0, 0)", desk.frame(0, 0, 0), 12);
        due("frame(0, 1, 0)", desk.frame(0, 1, 0), 34);
    }

    void p02_theHighestBitOfANumberIsAByteLikeOthers() {
        CadenceDesk desk = new CadenceDesk();
        due("feed", desk.feed(0x20202020, 0x202020FF, -1, LOW, FAR), 20);
        due("byte 255 begins no token", desk.film(20), Check.fault(7, NO_TOKEN));
        due("feed", desk.feed(0x80202020, 0, 0, 0, 0), 20);
        due("byte 128 begins no token", desk.film(4), Check.fault(0, NO_TOKEN));
    }

    void p02_thereIsRoomAgainWhenTheTapeWasTaken() {
        CadenceDesk desk = new CadenceDesk();
        for (int round = 0; round < 3; round++) {
            due("full", Check.feed(desk, " ".repeat(900)), 900);
            due("taken", round == 1 ? desk.rules(5) : desk.film(5), Check.fault(5, NO_TOKEN));
            due("room", desk.feed(0, 0, 0, 0, 0), 20);
            desk.film(0);
        }
    }

    void p02_aFullTapeIsFullAfterARefusedFilm() {
        CadenceDesk desk = new CadenceDesk();
        Check.feed(desk, " ".repeat(900));
        due("film(901)", desk.film(901), NONE);
        due("rules(-1)", desk.rules(-1), NONE);
        due("feed", desk.feed(1, 1, 1, 1, 1), NONE);
    }

    void p02_bytesThatComeChangeNothingElse() {
        CadenceDesk desk = Desks.busy();
        CadenceDesk twin = Desks.busy();
        desk.feed(1, 2, 3, 4, 5);
        twin.feed(0, 0, 0, 0, 0);
        dueAlike("all else", desk, twin);
    }

    // ---- 3: film, how many bytes

    void p03_soManyBytesAsTheTapeHas() {
        CadenceDesk desk = new CadenceDesk();
        Check.feed(desk, SHORT_FILM + "  ");
        due("film(21)", desk.film(21), NONE);
        due("film(20)", desk.film(20), 1);
    }

    void p03_noneIfTheTapeHasNotSoMany() {
        CadenceDesk desk = new CadenceDesk();
        due("film(1) of an empty tape", desk.film(1), NONE);
        Check.feed(desk, SHORT_FILM);
        due("film(21)", desk.film(21), NONE);
        due("film(most)", desk.film(FAR), NONE);
        due("the tape stays", desk.count(11), 20);
        due("its bytes, too", desk.film(18), 1);
    }

    void p03_noneIfBelowZero() {
        CadenceDesk desk = new CadenceDesk();
        due("film(-1) of an empty tape", desk.film(-1), NONE);
        Check.feed(desk, SHORT_FILM);
        due("film(-1)", desk.film(-1), NONE);
        due("film(least)", desk.film(LOW), NONE);
        due("the tape stays", desk.count(11), 20);
        due("its bytes, too", desk.film(18), 1);
    }

    void p03_ofNoBytesTheEndIsTheFault() {
        CadenceDesk desk = new CadenceDesk();
        due("film(0) of an empty tape", desk.film(0), Check.fault(0, NO_TOKEN));
        Check.feed(desk, SHORT_FILM);
        due("film(0)", desk.film(0), Check.fault(0, NO_TOKEN));
        due("the tape is empty then", desk.count(11), 0);
    }

    void p03_bytesBehindTheFirstAreNotRead() {
        CadenceDesk desk = new CadenceDesk();
        Check.feed(desk, SHORT_FILM + "!");
        due("film(18)", desk.film(18), 1);
        Check.feed(desk, SHORT_FILM + "!");
        due("film(19)", desk.film(19), Check.fault(18, NO_TOKEN));
        Check.feed(desk, "width 1;frame 1 234;");
        due("within a number", desk.film(18), Check.fault(18, NO_TOKEN));
        Check.feed(desk, "width 12;");
        due("a number of which one digit is read", desk.film(7), Check.fault(7, NO_TOKEN));
        Check.feed(desk, "width 12;");
        due("and both", desk.film(8), Check.fault(6, BOUNDS));
        Check.feed(desk, "width 1;frame 1 2;");
        due("within a word", desk.film(4), Check.fault(0, NO_TOKEN));
    }

    void p03_theTapeIsEmptyThen() {
        CadenceDesk desk = new CadenceDesk();
        Check.feed(desk, SHORT_FILM + " ".repeat(50));
        due("film(18)", desk.film(18), 1);
        due("count(11)", desk.count(11), 0);
        due("film(1)", desk.film(1), NONE);
    }

    void p03_theTapeIsEmptyAfterAFaultToo() {
        CadenceDesk desk = new CadenceDesk();
        Check.feed(desk, "frame;" + " ".repeat(50));
        due("film(3)", desk.film(3), Check.fault(0, NO_TOKEN));
        due("count(11)", desk.count(11), 0);
    }

    void p03_aFaultLeavesAllElse() {
        String[] faults = {"", "x", "width 7;", "width 1;frame 1 2;frame 3 100;", "width 1;frame 5 6;frame",
            "width 1;" + "frame 1 2;".repeat(21), "width 6;frame 1 2 3 4 5 6 1 2 3 4 5 6;frame 1;"};
        for (String text : faults) {
            CadenceDesk desk = Desks.busy();
            Check.film(desk, text);
            dueAlike(text, desk, Desks.busy());
        }
    }

    void p03_aRefusedCallLeavesAll() {
        CadenceDesk desk = Desks.busy();
        CadenceDesk twin = Desks.busy();
        Check.feed(desk, SHORT_FILM);
        Check.feed(twin, SHORT_FILM);
        desk.film(21);
        desk.film(-1);
        desk.film(FAR);
        desk.film(LOW);
        dueAlike("all", desk, twin);
    }

    void p03_whenAFilmIsToldThereAreNoFields() {
        CadenceDesk desk = Desks.busy();
        due("film", Check.film(desk, Desks.FILM), 4);
        due("count(2)", desk.count(2), 0);
        due("field(0, 0)", Check.fieldOf(desk, 0, 0), Check.THROWS);
        due("all(0)", desk.all(0), 0);
        due("all(2)", desk.all(2), 0);
        due("all(6)", desk.all(6), 0);
        due("path(0, 0)", desk.path(0, 0), NONE);
        due("restored()", desk.restored(), 0);
        due("costs(1)", desk.costs(1), 0);
        due("guess(1)", desk.guess(1), NONE);
    }

    void p03_whenAFilmIsToldNothingCanBeUndone() {
        CadenceDesk desk = Desks.busy();
        Check.film(desk, Desks.FILM);
        due("count(10)", desk.count(10), 0);
        due("undo()", desk.undo(), NONE);
        due("count(2)", desk.count(2), 0);
        desk.carry(0, 0);
        due("the first act behind it", desk.undo(), 0);
        due("no fields again", desk.count(2), 0);
        due("undo()", desk.undo(), NONE);
    }

    void p03_whenAFilmIsToldRulesAndForceStay() {
        CadenceDesk desk = Desks.busy();
        Check.film(desk, SHORT_FILM);
        int[] counts = {1, 1, 0, 2, 1, 1, 7, 3, 5, 1, 0, 0};
        for (int what = 0; what < counts.length; what++) {
            due("count(" + what + ")", desk.count(what), counts[what]);
        }
    }

    void p03_aFilmIsInPlaceOfTheLastOne() {
        CadenceDesk desk = Desks.told("width 6;" + "frame 9 9 9 9 9 9 9 9 9 9 9 9;".repeat(20));
        due("film", Check.film(desk, SHORT_FILM), 1);
        due("count(0)", desk.count(0), 1);
        due("count(1)", desk.count(1), 1);
        due("frame(0, 0, 0)", desk.frame(0, 0, 0), 1);
        due("frame(0, 0, 1)", desk.frame(0, 0, 1), NONE);
        due("frame(1, 0, 0)", desk.frame(1, 0, 0), NONE);
    }

    // ---- 3: film, its tokens

    void p03_blanksPartTokensAndMeanNothingElse() {
        dueFilm("\n\n  width \n 1\n;\nframe\n1\n2 ; \n ", 1);
        dueFilm("width1;frame1 2;frame3 4;", 2);
        dueFilmFault("wi dth 1;frame 1 2;", 0, NO_TOKEN);
        dueFilmFault("width 1;frame 1 2 3;", 18, NO_TOKEN);
        dueFilm("width 1;frame 1 23;", 1);
    }

    void p03_noOtherByteIsABlank() {
        int[] others = {0, 1, 9, 11, 12, 13, 31, 33, 127, 128, 160, 255};
        for (int b : others) {
            dueFilmFault("width" + (char) b + "1;frame 1 2;", 5, NO_TOKEN);
        }
    }

    void p03_smallLettersAloneMakeWords() {
        dueFilmFault("`width 1;", 0, NO_TOKEN);
        dueFilmFault("width`1;", 5, NO_TOKEN);
        dueFilmFault("width{1;", 5, NO_TOKEN);
        dueFilmFault("widtH 1;", 0, NO_TOKEN);
        dueFilmFault("width 1;frame 1 2;Z", 18, NO_TOKEN);
        dueFilmFault("width 1;frame 1 2;A", 18, NO_TOKEN);
        dueFilmFault("widtha 1;", 0, NO_TOKEN);
        dueFilmFault("widthz 1;", 0, NO_TOKEN);
        dueFilmFault("widt 1;", 0, NO_TOKEN);
        dueFilmFault("widthframe 1;", 0, NO_TOKEN);
        dueFilmFault("width 1;framez 1 2;", 8, NO_TOKEN);
    }

    /** Each letter of a word in turn is another one. */
    private static String[] misspelt(String word) {
        String[] words = new String[word.length()];
        for (int i = 0; i < words.length; i++) {
            words[i] = word.substring(0, i) + (word.charAt(i) == 'x' ? 'y' : 'x') + word.substring(i + 1);
        }
        return words;
    }

    void p03_wordsAreSpeltInFull() {
        for (String word : misspelt("width")) {
            dueFilmFault(word + " 1;frame 1 2;", 0, NO_TOKEN);
        }
        for (String word : misspelt("frame")) {
            dueFilmFault("width 1;" + word + " 1 2;", 8, NO_TOKEN);
            dueFilmFault("width 1;frame 1 2;" + word + " 1 2;", 18, NO_TOKEN);
        }
    }

    void p04_wordsAreSpeltInFull() {
        for (String line : new String[] {"cadence 2", "slack 1", "edit 1", "still 1", "mate 1", "measure sum"}) {
            String word = line.substring(0, line.indexOf(' '));
            for (String other : misspelt(word)) {
                dueRulesFault("cadence 2;" + other + line.substring(word.length()) + ";", 10, NO_TOKEN);
            }
        }
        for (String measure : new String[] {"sum", "most", "many"}) {
            for (String other : misspelt(measure)) {
                dueRulesFault("measure " + other + ";", 8, NO_TOKEN);
            }
        }
    }

    void p03_digitsAloneMakeNumbers() {
        dueFilmFault("width/1;", 5, NO_TOKEN);
        dueFilmFault("width:1;", 5, NO_TOKEN);
        dueFilmFault("width -1;", 6, NO_TOKEN);
        dueFilmFault("width +1;", 6, NO_TOKEN);
        dueFilmFault("width 1.0;", 7, NO_TOKEN);
        dueFilmFault("width 1a;", 7, NO_TOKEN);
        CadenceDesk desk = Desks.told("width 5;frame 0 1 2 3 4 5 6 7 8 9;");
        for (int digit = 0; digit < 10; digit++) {
            due("digit " + digit, desk.frame(0, digit / 5, digit % 5), digit);
        }
    }

    void p03_aSemicolonStandsAlone() {
        dueFilm("width 1 ; frame 1 2 ;frame 3 4;", 2);
        dueFilmFault("width 1;;frame 1 2;", 8, NO_TOKEN);
        dueFilmFault("width 1;frame 1 2;;", 18, NO_TOKEN);
        dueFilmFault("width 1:frame 1 2;", 7, NO_TOKEN);
        dueFilmFault("width 1<frame 1 2;", 7, NO_TOKEN);
    }

    void p03_aNumberHasOneToFourDigits() {
        dueFilm("width 0001;frame 0099 0000;", 1);
        dueFilmFault("width 00001;", 6, NO_TOKEN);
        dueFilmFault("width 1;frame 1 00002;", 16, NO_TOKEN);
        dueFilmFault("width 1;frame 1 9999;", 16, BOUNDS);
        dueFilmFault("width 1;frame 1 99999;", 16, NO_TOKEN);
        dueFilmFault("width 4294967297;", 6, NO_TOKEN);
        dueFilmFault("width 1;frame 1 " + "0".repeat(800) + "1;", 16, NO_TOKEN);
    }

    // ---- 3 and 4: each of the 256 bytes, at places where another token or a blank may stand

    private static boolean isBlank(int b) {
        return b == 32 || b == 10;
    }

    private static boolean isDigit(int b) {
        return b >= '0' && b <= '9';
    }

    void p03_eachByteAheadOfAFilm() {
        for (int b = 0; b < 256; b++) {
            dueFilm((char) b + SHORT_FILM, isBlank(b) ? 1 : Check.fault(0, NO_TOKEN));
        }
    }

    void p03_eachByteBehindAFilm() {
        for (int b = 0; b < 256; b++) {
            dueFilm(SHORT_FILM + (char) b, isBlank(b) ? 1 : Check.fault(18, NO_TOKEN));
        }
    }

    void p03_eachByteBehindASample() {
        for (int b = 0; b < 256; b++) {
            int want = isBlank(b) || isDigit(b) ? 1 : Check.fault(b == ';' ? 18 : 17, NO_TOKEN);
            dueFilm("width 1;frame 1 2" + (char) b + ";", want);
        }
    }

    void p03_eachByteBehindTheWidth() {
        for (int b = 0; b < 256; b++) {
            int fault = isDigit(b) ? Check.fault(6, BOUNDS) : Check.fault(b == ';' ? 8 : 7, NO_TOKEN);
            dueFilm("width 1" + (char) b + ";frame 1 2;", isBlank(b) ? 1 : fault);
        }
    }

    void p03_eachByteInsideAWord() {
        for (int b = 0; b < 256; b++) {
            dueFilmFault("wid" + (char) b + "th 1;frame 1 2;", 0, NO_TOKEN);
            dueFilmFault("width 1;fra" + (char) b + "me 1 2;", 8, NO_TOKEN);
        }
    }

    void p04_eachByteAheadOfRules() {
        for (int b = 0; b < 256; b++) {
            dueRules((char) b + "cadence 2;", isBlank(b) ? 1 : Check.fault(0, NO_TOKEN));
        }
    }

    void p04_eachByteBehindRules() {
        for (int b = 0; b < 256; b++) {
            dueRules("cadence 2;" + (char) b, isBlank(b) ? 1 : Check.fault(10, NO_TOKEN));
        }
    }

    void p04_eachByteBehindANumber() {
        for (int b = 0; b < 256; b++) {
            int fault = isDigit(b) ? Check.fault(8, BOUNDS) : Check.fault(b == ';' ? 10 : 9, NO_TOKEN);
            dueRules("cadence 2" + (char) b + ";", isBlank(b) ? 1 : fault);
        }
    }

    void p04_eachByteInsideAWord() {
        for (int b = 0; b < 256; b++) {
            dueRulesFault("cad" + (char) b + "ence 2;", 0, NO_TOKEN);
            dueRulesFault("cadence 2;sla" + (char) b + "ck 2;", 10, NO_TOKEN);
            dueRulesFault("measure su" + (char) b + "m;cadence 2;", 8, NO_TOKEN);
        }
    }

    void p04_blanksPartTokensAndMeanNothingElse() {
        CadenceDesk desk = new CadenceDesk();
        due("rules", Check.rules(desk, "\n cadence2 3\n4;slack1;edit\n\n2 ;\nmeasure many;mate 03;"), 1);
        int[] counts = {1, 0, 1, 2, 10, 3, 2};
        for (int i = 0; i < counts.length; i++) {
            due("count(" + (3 + i) + ")", desk.count(3 + i), counts[i]);
        }
        due("cadence(0, -1)", desk.cadence(0, NONE), 3);
        dueRulesFault("ca dence 2;", 0, NO_TOKEN);
        dueRulesFault("cadence 2;slack 1 2;", 18, NO_TOKEN);
        dueRules("cadence 2;slack 12;", 1);
        dueRulesFault("measuresum;cadence 2;", 0, NO_TOKEN);
    }

    // ---- 3: film, its bounds

    void p03_widthIsOneToSix() {
        for (int width = 1; width <= 6; width++) {
            String row = " 1".repeat(width);
            dueFilm("width " + width + ";frame" + row + row + ";", 1);
        }
        dueFilmFault("width 0;", 6, BOUNDS);
        dueFilmFault("width 7;", 6, BOUNDS);
        dueFilmFault("width 9999;", 6, BOUNDS);
    }

    void p03_aRowHasAsManyNumbersAsWidthSays() {
        for (int width = 1; width <= 6; width++) {
            String film = "width " + width + ";frame" + " 1".repeat(2 * width - 1);
            dueFilmFault(film + ";", film.length(), NO_TOKEN);
            dueFilm(film + " 1;", 1);
            dueFilmFault(film + " 1 1;", film.length() + 3, NO_TOKEN);
        }
    }

    void p03_aSampleIsZeroToNinetyNine() {
        CadenceDesk desk = Desks.told("width 1;frame 0 99;");
        due("frame(0, 0, 0)", desk.frame(0, 0, 0), 0);
        due("frame(0, 1, 0)", desk.frame(0, 1, 0), 99);
        dueFilmFault("width 1;frame 100 1;", 14, BOUNDS);
        dueFilmFault("width 1;frame 1 100;", 16, BOUNDS);
    }

    void p03_theFirstRowIsTheTop() {
        CadenceDesk desk = Desks.told("width 2;frame 1 2 3 4;");
        due("frame(0, 0, 1)", desk.frame(0, 0, 1), 2);
        due("frame(0, 1, 0)", desk.frame(0, 1, 0), 3);
    }

    void p03_thereIsOneFrameAtLeast() {
        dueFilmFault("width 1;", 8, NO_TOKEN);
        dueFilmFault("width 1; \n", 10, NO_TOKEN);
        dueFilm(SHORT_FILM, 1);
    }

    void p03_thereAreTwentyFramesAtMost() {
        String twenty = "width 1;" + "frame 1 2;".repeat(20);
        dueFilm("width 1;" + "frame 1 2;".repeat(19), 19);
        dueFilm(twenty, 20);
        dueFilm(twenty + " \n", 20);
        dueFilmFault(twenty + "frame 1 2;", 208, TOO_MANY);
    }

    void p03_aFilmCanBeAsLongAsTheTape() {
        String frame = "frame 10 11 12 13 14 15 16 17 18 19 20 21;";
        String film = "width 6;" + frame.repeat(20);
        CadenceDesk desk = new CadenceDesk();
        due("film", Check.film(desk, film + " ".repeat(900 - film.length())), 20);
        due("frame(19, 1, 5)", desk.frame(19, 1, 5), 21);
    }

    // ---- 3: film, which fault

    void p03_theEndIsAtHowManyBytesThereAre() {
        dueFilmFault("   ", 3, NO_TOKEN);
        dueFilmFault("width", 5, NO_TOKEN);
        dueFilmFault("width 1", 7, NO_TOKEN);
        dueFilmFault("width 1;frame", 13, NO_TOKEN);
        dueFilmFault("width 1;frame 1", 15, NO_TOKEN);
        dueFilmFault("width 1;frame 1 2", 17, NO_TOKEN);
        dueFilmFault("width 1;frame 1 2 \n", 19, NO_TOKEN);
        dueFilmFault(" ".repeat(900), 900, NO_TOKEN);
    }

    void p03_aTokenIsAtItsFirstByte() {
        dueFilmFault("  frame 1", 2, NO_TOKEN);
        dueFilmFault("width 1234;", 6, BOUNDS);
        dueFilmFault("width 1;  fra", 10, NO_TOKEN);
        dueFilmFault("width width", 6, NO_TOKEN);
    }

    void p03_theFaultOfTheLeastPlace() {
        dueFilmFault("width 7!", 6, BOUNDS);
        dueFilmFault("width 7;frame 1 2", 6, BOUNDS);
        dueFilmFault("width 1;frame 100 !", 14, BOUNDS);
        dueFilmFault("width 1;frame ! 100", 14, NO_TOKEN);
        dueFilmFault("width 1;" + "frame 1 2;".repeat(19) + "frame 1 200;frame", 206, BOUNDS);
        dueFilmFault("width 1;" + "frame 1 2;".repeat(20) + "frame 100 !", 208, TOO_MANY);
        dueFilmFault("width 1;" + "frame 1 2;".repeat(20) + "!frame", 208, NO_TOKEN);
        dueFilmFault("width 1;" + "frame 1 2;".repeat(20) + "frames", 208, NO_TOKEN);
        dueFilmFault("width 1;" + "frame 1 2;".repeat(20) + "7", 208, NO_TOKEN);
        dueFilmFault("width 1;" + "frame 1 2;".repeat(20) + "frame", 208, TOO_MANY);
    }

    // ---- 4: rules, how many bytes

    void p04_soManyBytesAsTheTapeHas() {
        CadenceDesk desk = new CadenceDesk();
        Check.feed(desk, "cadence 2;          ");
        due("rules(21)", desk.rules(21), NONE);
        due("rules(20)", desk.rules(20), 1);
    }

    void p04_noneIfTheTapeHasNotSoMany() {
        CadenceDesk desk = new CadenceDesk();
        due("rules(1) of an empty tape", desk.rules(1), NONE);
        Check.feed(desk, "cadence 2;");
        due("rules(21)", desk.rules(21), NONE);
        due("rules(most)", desk.rules(FAR), NONE);
        due("the tape stays", desk.count(11), 20);
        due("its bytes, too", desk.rules(10), 1);
    }

    void p04_noneIfBelowZero() {
        CadenceDesk desk = new CadenceDesk();
        Check.feed(desk, "cadence 2;");
        due("rules(-1)", desk.rules(-1), NONE);
        due("rules(least)", desk.rules(LOW), NONE);
        due("the tape stays", desk.count(11), 20);
        due("its bytes, too", desk.rules(10), 1);
    }

    void p04_ofNoBytesTheEndIsTheFault() {
        CadenceDesk desk = new CadenceDesk();
        due("rules(0) of an empty tape", desk.rules(0), Check.fault(0, NO_TOKEN));
        Check.feed(desk, "cadence 2;");
        due("rules(0)", desk.rules(0), Check.fault(0, NO_TOKEN));
        due("the tape is empty then", desk.count(11), 0);
    }

    void p04_bytesBehindTheFirstAreNotRead() {
        CadenceDesk desk = new CadenceDesk();
        Check.feed(desk, "cadence 2;!");
        due("rules(10)", desk.rules(10), 1);
        Check.feed(desk, "cadence 2;!");
        due("rules(11)", desk.rules(11), Check.fault(10, NO_TOKEN));
        Check.feed(desk, "cadence 25;");
        due("one digit is read", desk.rules(9), Check.fault(9, NO_TOKEN));
        Check.feed(desk, "cadence 25;");
        due("both are", desk.rules(10), Check.fault(8, BOUNDS));
    }

    void p04_theTapeIsEmptyThen() {
        CadenceDesk desk = new CadenceDesk();
        Check.feed(desk, "cadence 2;" + " ".repeat(50));
        due("rules(10)", desk.rules(10), 1);
        due("count(11)", desk.count(11), 0);
        Check.feed(desk, "cadence 2;" + " ".repeat(50));
        due("rules(9)", desk.rules(9), Check.fault(9, NO_TOKEN));
        due("count(11)", desk.count(11), 0);
    }

    void p04_aFaultLeavesAllElse() {
        String[] faults = {"", "x", "slack 3;", "cadence 6;", "cadence 4 4;edit 1000;", "cadence 5;slack 9;slack 9;",
            "cadence 5;".repeat(5), "cadence 5 5 5 5 5 5 5;", "measure many;cadence 4", "edit 3;measure few;"};
        for (String text : faults) {
            CadenceDesk desk = Desks.busy();
            Check.rules(desk, text);
            dueAlike(text, desk, Desks.busy());
        }
    }

    void p04_aRefusedCallLeavesAll() {
        CadenceDesk desk = Desks.busy();
        CadenceDesk twin = Desks.busy();
        Check.feed(desk, "cadence 2;");
        Check.feed(twin, "cadence 2;");
        desk.rules(21);
        desk.rules(-1);
        desk.rules(FAR);
        desk.rules(LOW);
        dueAlike("all", desk, twin);
    }

    void p04_whenRulesAreToldNothingCanBeUndone() {
        CadenceDesk desk = Desks.busy();
        Check.rules(desk, "cadence 2 3;");
        due("count(10)", desk.count(10), 0);
        due("undo()", desk.undo(), NONE);
        due("count(2)", desk.count(2), 9);
        desk.cut(0, 1);
        due("the first act behind it", desk.undo(), 0);
        due("count(2)", desk.count(2), 9);
        due("undo()", desk.undo(), NONE);
    }

    void p04_whenRulesAreToldFilmAndFieldsStay() {
        CadenceDesk desk = Desks.busy();
        Check.rules(desk, "cadence 2 3;");
        due("count(0)", desk.count(0), 2);
        due("count(1)", desk.count(1), 4);
        due("frame(3, 1, 1)", desk.frame(3, 1, 1), 93);
        due("count(2)", desk.count(2), 9);
        due("field(0, 0)", Check.fieldOf(desk, 0, 0), 5);
        due("field(8, 1)", Check.fieldOf(desk, 8, 1), 93);
    }

    void p04_whenRulesAreToldTheFirstCadenceIsInForce() {
        CadenceDesk desk = Desks.busy();
        due("count(4)", desk.count(4), 1);
        Check.rules(desk, "cadence 2 3;cadence 3;");
        due("count(4)", desk.count(4), 0);
        due("force(1)", desk.force(1), 0);
    }

    void p04_whatRulesDontTellIsAsAtFirst() {
        CadenceDesk desk = new CadenceDesk();
        Check.rules(desk, "cadence 5;slack 1;edit 2;still 3;mate 4;measure most;");
        Check.rules(desk, "cadence 4;");
        int[] first = {1, 0, 0, 40, 10, 0, 0};
        for (int i = 0; i < first.length; i++) {
            due("count(" + (3 + i) + ")", desk.count(3 + i), first[i]);
        }
    }

    void p04_cadencesAreNotAsAtFirst() {
        CadenceDesk desk = new CadenceDesk();
        Check.rules(desk, "cadence 5;");
        due("cadence(0, -1)", desk.cadence(0, NONE), 1);
        due("cadence(0, 0)", desk.cadence(0, 0), 5);
        due("cadence(0, 1)", desk.cadence(0, 1), NONE);
        Check.rules(desk, "cadence 2;cadence 3;cadence 4;cadence 5 5;");
        Check.rules(desk, "cadence 3 3;");
        due("count(3)", desk.count(3), 1);
        due("cadence(1, -1)", desk.cadence(1, NONE), NONE);
    }

    // ---- 4: rules, their bounds

    void p04_aCadencesNumbersAreTwoToFive() {
        CadenceDesk desk = new CadenceDesk();
        due("rules", Check.rules(desk, "cadence 2 3 4 5;"), 1);
        for (int i = 0; i < 4; i++) {
            due("cadence(0, " + i + ")", desk.cadence(0, i), 2 + i);
        }
        dueRulesFault("cadence 1;", 8, BOUNDS);
        dueRulesFault("cadence 0;", 8, BOUNDS);
        dueRulesFault("cadence 6;", 8, BOUNDS);
        dueRulesFault("cadence 9999;", 8, BOUNDS);
        dueRulesFault("cadence 2 1;", 10, BOUNDS);
        dueRulesFault("cadence 2 6;", 10, BOUNDS);
        dueRules("cadence 0002 0005;", 1);
        dueRulesFault("cadence 00002;", 8, NO_TOKEN);
    }

    void p04_aCadenceHasOneToSixNumbers() {
        dueRulesFault("cadence;", 7, NO_TOKEN);
        dueRulesFault("cadence ;", 8, NO_TOKEN);
        for (int many = 1; many <= 6; many++) {
            CadenceDesk desk = new CadenceDesk();
            due("rules", Check.rules(desk, "cadence" + " 3".repeat(many) + ";"), 1);
            due("cadence(0, -1)", desk.cadence(0, NONE), many);
        }
        dueRulesFault("cadence 2 2 2 2 2 2 2;", 20, TOO_MANY);
        dueRulesFault("cadence 2 2 2 2 2 2 2 2;", 20, TOO_MANY);
    }

    void p04_thereIsACadenceLineAtLeast() {
        dueRulesFault("slack 3;", 8, NO_TOKEN);
        dueRulesFault("slack 3; \n ", 11, NO_TOKEN);
        dueRulesFault("slack 1;edit 2;still 3;mate 4;measure most;", 43, NO_TOKEN);
        dueRulesFault(" \n", 2, NO_TOKEN);
        dueRules("slack 3;cadence 2;", 1);
    }

    void p04_thereAreFourCadenceLinesAtMost() {
        dueRules("cadence 2;".repeat(3), 3);
        dueRules("cadence 2;".repeat(4), 4);
        dueRulesFault("cadence 2;".repeat(5), 40, TOO_MANY);
        dueRulesFault("cadence 2;cadence 2;slack 1;cadence 2;cadence 2;cadence 2;", 48, TOO_MANY);
    }

    void p04_cadencesAreNumberedFromZeroOn() {
        CadenceDesk desk = new CadenceDesk();
        Check.rules(desk, "cadence 2;slack 1;cadence 3;cadence 4;mate 1;cadence 5;");
        for (int c = 0; c < 4; c++) {
            due("cadence(" + c + ", 0)", desk.cadence(c, 0), 2 + c);
        }
    }

    void p04_plainValuesAreZeroTo999() {
        for (int i = 0; i < PLAIN.length; i++) {
            CadenceDesk desk = new CadenceDesk();
            due(PLAIN[i] + " 0", Check.rules(desk, "cadence 2;" + PLAIN[i] + " 0;"), 1);
            due(PLAIN[i], desk.count(PLAIN_COUNT[i]), 0);
            due(PLAIN[i] + " 999", Check.rules(desk, "cadence 2;" + PLAIN[i] + " 999;"), 1);
            due(PLAIN[i], desk.count(PLAIN_COUNT[i]), 999);
            due(PLAIN[i] + " 0999", Check.rules(desk, PLAIN[i] + " 0999;cadence 2;"), 1);
            int place = PLAIN[i].length() + 1;
            dueRulesFault(PLAIN[i] + " 1000;", place, BOUNDS);
            dueRulesFault(PLAIN[i] + " 9999;", place, BOUNDS);
            dueRulesFault(PLAIN[i] + " 00999;", place, NO_TOKEN);
        }
    }

    void p04_aPlainLineHasOneNumber() {
        for (String word : PLAIN) {
            int n = word.length();
            dueRulesFault(word + ";", n, NO_TOKEN);
            dueRulesFault(word + " 1 2;", n + 3, NO_TOKEN);
            dueRulesFault(word + " sum;", n + 1, NO_TOKEN);
            dueRulesFault(word + " 1", n + 2, NO_TOKEN);
        }
    }

    void p04_measureIsSumOrMostOrMany() {
        String[] measures = {"sum", "most", "many"};
        for (int i = 0; i < measures.length; i++) {
            CadenceDesk desk = new CadenceDesk();
            due(measures[i], Check.rules(desk, "measure " + measures[i] + ";cadence 2;"), 1);
            due("count(9)", desk.count(9), i);
        }
        dueRulesFault("measure few;", 8, NO_TOKEN);
        dueRulesFault("measure mos;", 8, NO_TOKEN);
        dueRulesFault("measure mosts;", 8, NO_TOKEN);
        dueRulesFault("measure 0;", 8, NO_TOKEN);
        dueRulesFault("measure;", 7, NO_TOKEN);
        dueRulesFault("measure sum most;", 12, NO_TOKEN);
        dueRulesFault("sum;", 0, NO_TOKEN);
    }

    void p04_eachOfTheseFiveOnceAtMost() {
        String[] lines = {"slack 1;", "edit 1;", "still 1;", "mate 1;", "measure sum;"};
        dueRules(String.join("", lines) + "cadence 2;", 1);
        for (String line : lines) {
            String told = "cadence 2;" + String.join("", lines);
            dueRulesFault(told + line, told.length(), TWICE);
            dueRulesFault(line + line + "cadence 2;", line.length(), TWICE);
            dueRulesFault(line + "cadence 2;" + line, line.length() + 10, TWICE);
        }
    }

    void p04_onceAtMostInEachTelling() {
        CadenceDesk desk = new CadenceDesk();
        due("slack once", Check.rules(desk, "slack 1;cadence 2;"), 1);
        due("and once more", Check.rules(desk, "slack 2;cadence 2;"), 1);
        due("a fault behind slack", Check.rules(desk, "slack 3;cadence 6;"), Check.fault(16, BOUNDS));
        due("and once more", Check.rules(desk, "slack 4;cadence 2;"), 1);
        due("count(5)", desk.count(5), 4);
    }

    void p04_nineLinesAreTheMost() {
        String text = "cadence 2;slack 1;cadence 3;edit 2;cadence 4;still 3;cadence 5;mate 4;measure many;";
        CadenceDesk desk = new CadenceDesk();
        due("rules", Check.rules(desk, text), 4);
        int[] counts = {4, 0, 1, 2, 3, 4, 2};
        for (int i = 0; i < counts.length; i++) {
            due("count(" + (3 + i) + ")", desk.count(3 + i), counts[i]);
        }
        dueRulesFault(text + "edit 1;", text.length(), TWICE);
        dueRulesFault(text + "cadence 2;", text.length(), TOO_MANY);
        dueRulesFault(text + "pace 2;", text.length(), NO_TOKEN);
        dueRulesFault(text + ";", text.length(), NO_TOKEN);
    }

    // ---- 4: rules, which fault

    void p04_atOnePlaceTheFirstOfTheList() {
        dueRulesFault("cadence 2 2 2 2 2 2 6;", 20, BOUNDS);
        dueRulesFault("cadence 2 2 2 2 2 2 1;", 20, BOUNDS);
        dueRulesFault("cadence 2 2 2 2 2 2 5;", 20, TOO_MANY);
        dueRulesFault("cadence 2 2 2 2 2 2 00005;", 20, NO_TOKEN);
        dueRulesFault("cadence 2 2 2 2 2 2 slack", 20, NO_TOKEN);
        dueRulesFault("cadence 2 2 2 2 2 2", 19, NO_TOKEN);
    }

    void p04_theFaultOfTheLeastPlace() {
        dueRulesFault("slack 1;slack 1000;", 8, TWICE);
        dueRulesFault("slack 1;slack !", 8, TWICE);
        dueRulesFault("slack 1000;slack 1;", 6, BOUNDS);
        dueRulesFault("slack 1;slacks 1;", 8, NO_TOKEN);
        dueRulesFault("cadence 2;".repeat(4) + "cadence 9;", 40, TOO_MANY);
        dueRulesFault("cadence 2;".repeat(4) + "cadence", 40, TOO_MANY);
        dueRulesFault("cadence 2;".repeat(4) + "cadences", 40, NO_TOKEN);
        dueRulesFault("cadence 2 2 2 2 2 2 2 !", 20, TOO_MANY);
        dueRulesFault("cadence 9 9 !", 8, BOUNDS);
    }

    void p04_theEndIsAtHowManyBytesThereAre() {
        dueRulesFault("cadence", 7, NO_TOKEN);
        dueRulesFault("cadence 2", 9, NO_TOKEN);
        dueRulesFault("cadence 2 \n", 11, NO_TOKEN);
        dueRulesFault("cadence 2;measure", 17, NO_TOKEN);
        dueRulesFault("cadence 2;edit", 14, NO_TOKEN);
        dueRulesFault(" ".repeat(900), 900, NO_TOKEN);
    }

    void p04_aFilmIsNoRules() {
        dueRulesFault(SHORT_FILM, 0, NO_TOKEN);
        dueFilmFault("cadence 2;", 0, NO_TOKEN);
    }

    // ---- 5: frame

    void p05_noneSuchFrame() {
        CadenceDesk desk = Desks.told(Desks.longFilm());
        due("frame(0, 0, 0)", desk.frame(0, 0, 0), 0);
        due("frame(19, 1, 0)", desk.frame(19, 1, 0), 78);
        for (int frame : new int[] {-1, -2, 20, 21, FAR, LOW}) {
            due("frame(" + frame + ", 0, 0)", desk.frame(frame, 0, 0), NONE);
        }
    }

    void p05_noneSuchParity() {
        CadenceDesk desk = Desks.told(SHORT_FILM);
        due("frame(0, 0, 0)", desk.frame(0, 0, 0), 1);
        due("frame(0, 1, 0)", desk.frame(0, 1, 0), 2);
        for (int parity : new int[] {-1, -2, 2, 3, FAR, LOW}) {
            due("frame(0, " + parity + ", 0)", desk.frame(0, parity, 0), NONE);
        }
    }

    void p05_noneSuchSample() {
        CadenceDesk wide = Desks.told("width 6;frame 1 2 3 4 5 6 7 8 9 10 11 12;");
        due("frame(0, 0, 5)", wide.frame(0, 0, 5), 6);
        due("frame(0, 1, 5)", wide.frame(0, 1, 5), 12);
        CadenceDesk narrow = Desks.told(SHORT_FILM);
        for (int k : new int[] {-1, -2, 6, 7, FAR, LOW}) {
            due("frame(0, 0, " + k + ")", wide.frame(0, 0, k), NONE);
        }
        due("narrow: frame(0, 0, 1)", narrow.frame(0, 0, 1), NONE);
    }

    void p05_theFilmIsNotChangedByActs() {
        CadenceDesk desk = Desks.busy();
        desk.noise(1, 9);
        due("frame(0, 0, 0)", desk.frame(0, 0, 0), 1);
        desk.cut(0, 9);
        due("frame(3, 1, 1)", desk.frame(3, 1, 1), 93);
    }

    // ---- 6: cadence

    void p06_noneSuchCadence() {
        CadenceDesk desk = new CadenceDesk();
        Check.rules(desk, "cadence 2;cadence 3;cadence 4;cadence 5;");
        due("cadence(3, 0)", desk.cadence(3, 0), 5);
        for (int cadence : new int[] {-1, -2, 4, 5, FAR, LOW}) {
            due("cadence(" + cadence + ", 0)", desk.cadence(cadence, 0), NONE);
            due("cadence(" + cadence + ", -1)", desk.cadence(cadence, NONE), NONE);
        }
    }

    void p06_noneSuchNumber() {
        CadenceDesk desk = new CadenceDesk();
        Check.rules(desk, "cadence 2 3 4 5 2 3;cadence 4;");
        due("cadence(0, 5)", desk.cadence(0, 5), 3);
        due("cadence(1, 0)", desk.cadence(1, 0), 4);
        for (int i : new int[] {-2, -3, 6, 7, FAR, LOW}) {
            due("cadence(0, " + i + ")", desk.cadence(0, i), NONE);
        }
        due("cadence(1, 1)", desk.cadence(1, 1), NONE);
    }

    void p06_howManyForNone() {
        CadenceDesk desk = new CadenceDesk();
        Check.rules(desk, "cadence 2 3 4 5 2 3;cadence 4;");
        due("cadence(0, -1)", desk.cadence(0, NONE), 6);
        due("cadence(1, -1)", desk.cadence(1, NONE), 1);
    }

    // ---- 7: force

    void p07_noneSuchCadenceAndTheForceStays() {
        CadenceDesk desk = Desks.busy();
        for (int cadence : new int[] {-1, -2, 2, 3, 4, FAR, LOW}) {
            due("force(" + cadence + ")", desk.force(cadence), NONE);
            due("count(4)", desk.count(4), 1);
        }
        dueAlike("all", desk, Desks.busy());
    }

    void p07_theLastCadenceCanBeInForce() {
        CadenceDesk desk = new CadenceDesk();
        Check.rules(desk, "cadence 2;cadence 3;cadence 4;cadence 5;");
        due("force(3)", desk.force(3), 0);
        due("force(0)", desk.force(0), 3);
        due("force(4)", desk.force(4), NONE);
        due("count(4)", desk.count(4), 0);
    }

    void p07_theSameOnceMore() {
        CadenceDesk desk = Desks.busy();
        due("force(1)", desk.force(1), 1);
        dueAlike("all", desk, Desks.busy());
    }

    void p07_itIsNoActAndIsNotUndone() {
        CadenceDesk desk = Desks.busy();
        due("force(0)", desk.force(0), 1);
        due("count(10)", desk.count(10), 3);
        due("undo()", desk.undo(), 2);
        due("count(4)", desk.count(4), 0);
        due("count(2)", desk.count(2), 9);
    }

    void p07_thePathIsByTheOneInForce() {
        CadenceDesk desk = Desks.carried(Desks.FILM, "cadence 2 3;cadence 5;");
        due("all(0)", desk.all(0), 0);
        desk.force(1);
        due("by another", desk.all(0) > 0 ? 1 : 0, 1);
        due("as costs says", desk.all(0), desk.costs(1));
        desk.force(0);
        due("all(0)", desk.all(0), 0);
    }
}
