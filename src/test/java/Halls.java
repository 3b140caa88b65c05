/** Halls for the tests: with something of all in them, with all full, or with pages drawn cell by cell. */
final class Halls {
    /** The numbers of the probe's advertisements begin here in each hall; see Probe.addAdverts. */
    static final int FIRST_PROBE_ADVERT = 4;

    private Halls() {
    }

    static void signByTwo(PressHall hall, int page) {
        hall.sign(page, 0);
        hall.sign(page, 1);
    }

    /** Has each page that is not ready signed by the people 0 and 1, and closes an edition. */
    static int closeSigned(PressHall hall) {
        for (int page = 0; page < 10; page++) {
            if (!hall.isReady(page)) {
                signByTwo(hall, page);
            }
        }
        return hall.close();
    }

    /** Four advertisements, the last one not placed; the probe adds the others. */
    private static void addAdverts(PressHall hall) {
        hall.distance(1, 3);
        hall.distance(2, 0);
        hall.distance(3, 9);
        hall.advert(0, 2, 2, false, -1, -1);
        hall.advert(1, 1, 3, true, 1, -1);
        hall.advert(2, 3, 1, false, -1, 1);
        hall.advert(0, 1, 1, true, -1, -1);
        for (int advert = 0; advert < 3; advert++) {
            hall.place(advert);
        }
    }

    private static void addRest(PressHall hall) {
        hall.word(9, 4);
        hall.word(7, 7);
        hall.word(12, 3);
        int[] weights = {102030, 40506, 999999, 7, 500000, 123456};
        for (int row = 0; row < 6; row++) {
            hall.weigh(row, weights[row]);
        }
        hall.wire(0b1, 4);
        hall.wire(0b11110000, 7);
        hall.wire(0b1110, 2);
        hall.wire(0b111000000000, 7);
        int[] numbers = {1200, 34, 0, 4020};
        for (int row = 0; row < 4; row++) {
            hall.numbers(row, numbers[row]);
        }
    }

    /** A hall with something of all that a call could change, and room for more of it. */
    static PressHall busy() {
        PressHall hall = new PressHall();
        hall.page(1, 1, true);
        hall.page(3, 2, false);
        hall.page(5, 0, true);
        hall.page(6, 1, false);
        hall.page(8, 2, true);
        hall.page(9, 3, false);
        addAdverts(hall);
        hall.story(0, 99, 1);
        hall.story(1, 555555, 2);
        hall.story(0, 1234, 3);
        hall.story(2, 777, 1);
        hall.story(3, 9, 1);
        hall.story(0, 45, 1);
        for (int story = 0; story < 4; story++) {
            hall.lay(story);
        }
        hall.pass(30);
        closeSigned(hall);
        hall.pass(25);
        hall.truck(40, 120);
        hall.truck(35, 600);
        hall.correct(0, 0);
        hall.placeCorrection();
        hall.correct(0, 2);
        hall.correct(0, 3);
        hall.lift(3);
        hall.sign(0, 3);
        hall.sign(2, 5);
        hall.sign(8, 3);
        hall.hold(2, 2);
        hall.hold(0, 1);
        hall.hold(7, 5);
        hall.person(4);
        addRest(hall);
        return hall;
    }

    /** A hall with 20 advertisements, 20 stories, 8 editions, 5 owed corrections, 6 trucks, 5 words and 12 texts. */
    static PressHall full() {
        PressHall hall = new PressHall();
        hall.page(1, 1, true);
        hall.page(8, 2, true);
        addAdverts(hall);
        Probe.addAdverts(hall);
        for (int story = 0; story < 20; story++) {
            hall.story(story % 3 / 2, 55, 1);
            hall.lay(story);
        }
        for (int edition = 0; edition < 8; edition++) {
            hall.pass(9);
            closeSigned(hall);
        }
        for (int story = 3; story < 8; story++) {
            hall.correct(story, story);
        }
        hall.lift(19);
        hall.hold(3, 2);
        hall.person(5);
        for (int truck = 0; truck < 6; truck++) {
            hall.truck(50 - truck, 100 + truck);
        }
        addRest(hall);
        hall.word(20, 20);
        hall.word(5, 1);
        for (int text = 4; text < 12; text++) {
            hall.wire(3 << text, text - 4);
        }
        return hall;
    }

    private static boolean isFree(String drawing, int cell) {
        return drawing.charAt(2 + 4 * (cell / 3) + cell % 3) == '.';
    }

    /** Draws a page; returns how many advertisements hold its free cells free for the while. */
    private static int drawPage(PressHall hall, int page, String drawing) {
        int section = drawing.charAt(0) - '0';
        if (drawing.indexOf('#') < 0) {
            hall.place(hall.advert(0, 3, 4, false, section, -1));
            return 1;
        }
        int adverts = 0;
        for (int cell = 0; cell < 12; cell++) {
            if (isFree(drawing, cell)) {
                hall.place(hall.advert(0, 1, 1, false, section, -1));
                adverts++;
            } else {
                hall.correct(0, section);
                hall.placeCorrection();
            }
        }
        return adverts;
    }

    /**
     * A hall whose pages, from 0 on, at most 7, are drawn as "0 ... #.. ### ...": the section, then the four rows, a
     * free cell as '.', one that is taken by a correction as '#'. The other pages are empty and have the section 3.
     * The stories 0 to 3, one of each section, have been in the edition 0; the next story is 4.
     */
    static PressHall drawn(String... drawings) {
        PressHall hall = new PressHall();
        for (int page = 0; page < 10; page++) {
            hall.page(page, page < drawings.length ? drawings[page].charAt(0) - '0' : 3, false);
        }
        int laid = 0;
        for (int section = 0; section < 4; section++) {
            hall.story(section, 1, 1);
            laid += hall.lay(section) << section;
        }
        closeSigned(hall);
        for (int section = 0; section < 4; section++) {
            if ((laid >> section) % 2 == 1) {
                hall.lift(section);
            }
        }
        hall.distance(0, 0);
        int adverts = 0;
        for (int page = 0; page < drawings.length; page++) {
            adverts += drawPage(hall, page, drawings[page]);
        }
        for (int advert = 0; advert < adverts; advert++) {
            hall.takeOff(advert);
        }
        hall.distance(0, 1);
        return hall;
    }

    /** Whether the free cells of the pages are those that are drawn. */
    static boolean isDrawn(PressHall hall, String... drawings) {
        for (int page = 0; page < drawings.length; page++) {
            for (int cell = 0; cell < 12; cell++) {
                if (isFree(drawings[page], cell) != (hall.cell(page, cell) == 0)) {
                    return false;
                }
            }
        }
        return true;
    }
}
