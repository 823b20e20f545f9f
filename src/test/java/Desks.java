/** Desks in the states from which the boundary tests set out. */
final class Desks {
    /** Ten fields by the cadence 2 3. */
    static final String FILM =
        "width 2;frame 1 2 3 4;frame 10 20 30 40;frame 50 60 70 80;frame 90 91 92 93;";

    static final String BUSY_RULES = "cadence 2;cadence 2 3;slack 1;edit 7;still 3;mate 5;measure most;";

    private Desks() {
    }

    static CadenceDesk told(String film) {
        CadenceDesk desk = new CadenceDesk();
        Check.film(desk, film);
        return desk;
    }

    static CadenceDesk told(String film, String rules) {
        CadenceDesk desk = told(film);
        Check.rules(desk, rules);
        return desk;
    }

    static CadenceDesk carried(String film, String rules) {
        CadenceDesk desk = told(film, rules);
        desk.carry(0, 0);
        return desk;
    }

    /** Nothing is as at first, but for the tape: nine fields, three acts, cadence 1 in force. */
    static CadenceDesk busy() {
        CadenceDesk desk = told(FILM, BUSY_RULES);
        desk.force(1);
        desk.carry(0, 0);
        desk.cut(3, 1);
        desk.set(0, 0, 5);
        return desk;
    }

    /** Twenty frames of one sample, all of them other ones. */
    static String longFilm() {
        StringBuilder film = new StringBuilder("width 1;");
        for (int f = 0; f < 20; f++) {
            film.append("frame ").append(4 * f).append(' ').append(4 * f + 2).append(';');
        }
        return film.toString();
    }

    /** Ninety fields, as many as there can be: eighteen frames of five. */
    static CadenceDesk full() {
        return carried(longFilm(), "cadence 5;");
    }

    /** So many top fields, all the same: each behind the first is an edit. */
    static CadenceDesk tops(int many, String rules) {
        CadenceDesk desk = carried("width 1;frame 7 8;", rules);
        desk.cut(1, desk.count(2) - 1);
        while (desk.count(2) < many) {
            desk.doubled(0, Math.min(desk.count(2), many - desk.count(2)));
        }
        return desk;
    }
}
