/** Promises 1 to 9: a new object, pages and advertisements. */
public final class PagesTest {
    private static final Checks CHECKS = new Checks();

    private PagesTest() {
    }

    private static void newObject() {
        CHECKS.begin("promise 1");
        PressHall hall = new PressHall();
        for (int page = 0; page < 10; page++) {
            for (int cell = 0; cell < 12; cell++) {
                CHECKS.is("cell", 0, hall.cell(page, cell));
            }
            CHECKS.is("isReady", true, hall.isReady(page));
        }
        CHECKS.is("touched", 0, hall.touched());
        for (int person = 0; person < 6; person++) {
            CHECKS.is("sign by all people", person + 1, hall.sign(3, person));
        }
        CHECKS.is("advert", 0, hall.advert(0, 1, 1, true, -1, -1));
        CHECKS.is("place without a page with colour", -1, hall.place(0));
        CHECKS.is("advert", 1, hall.advert(0, 1, 1, false, 0, -1));
        CHECKS.is("place in section 0", 0, hall.place(1));
        CHECKS.throwsIt("printed", Checks.INDEX, () -> hall.printed(0, 0, 0));
        CHECKS.is("fit", 0, hall.fit(200));
        CHECKS.is("crop", 0, hall.crop(6, 6));
        CHECKS.is("solutions", 288, hall.solutions());
        CHECKS.throwsIt("take", Checks.STATE, hall::take);
        CHECKS.throwsIt("placeCorrection", Checks.STATE, hall::placeCorrection);
        CHECKS.is("pass", 1, hall.pass(1));
        CHECKS.is("NONE", -1, PressHall.NONE);
    }

    private static long page(PressHall hall, int page, int section, boolean colour) {
        hall.page(page, section, colour);
        return 0;
    }

    private static void page() {
        CHECKS.begin("promise 2");
        PressHall hall = new PressHall();
        hall.advert(0, 1, 1, true, 3, -1);
        hall.page(5, 3, false);
        CHECKS.is("place without colour", -1, hall.place(0));
        hall.page(5, 2, true);
        CHECKS.is("place in another section", -1, hall.place(0));
        hall.page(5, 3, true);
        CHECKS.is("place", 500, hall.place(0));
        CHECKS.throwsIt("page 5, taken", Checks.STATE, () -> page(hall, 5, 3, true));
        CHECKS.throwsIt("page 5, taken, section 4", Checks.ARGUMENT, () -> page(hall, 5, 4, true));
        CHECKS.throwsIt("page 10, section 4", Checks.INDEX, () -> page(hall, 10, 4, true));
        CHECKS.throwsIt("page -1", Checks.INDEX, () -> page(hall, -1, 0, true));
        CHECKS.throwsIt("section -1", Checks.ARGUMENT, () -> page(hall, 0, -1, true));
        CHECKS.is("takeOff", 500, hall.takeOff(0));
        hall.close();
        hall.sign(5, 1);
        hall.page(5, 0, true);
        CHECKS.is("place after another section", -1, hall.place(0));
        CHECKS.is("touched by page()", 0, hall.touched());
        CHECKS.is("sign, the signature kept by page()", 2, hall.sign(5, 0));
        hall.page(9, 3, true);
        hall.page(0, 0, true);
    }

    private static void cell() {
        CHECKS.begin("promise 3");
        PressHall hall = new PressHall();
        for (int i = 0; i < 20; i++) {
            hall.advert(0, 1, 1, false, -1, -1);
            hall.story(0, 1, 1);
        }
        hall.place(19);
        hall.lay(18);
        CHECKS.is("cell of the advertisement 19", 119, hall.cell(0, 0));
        CHECKS.is("cell of the story 18", 218, hall.cell(0, 3));
        CHECKS.is("free cell", 0, hall.cell(0, 1));
        hall.sign(0, 0);
        hall.sign(0, 1);
        hall.close();
        hall.correct(0, 18);
        hall.placeCorrection();
        CHECKS.is("cell of a correction of the story 18", 318, hall.cell(0, 1));
        CHECKS.is("last cell", 0, hall.cell(9, 11));
        CHECKS.throwsIt("cell(10, 0)", Checks.INDEX, () -> hall.cell(10, 0));
        CHECKS.throwsIt("cell(-1, 0)", Checks.INDEX, () -> hall.cell(-1, 0));
        CHECKS.throwsIt("cell(0, 12)", Checks.INDEX, () -> hall.cell(0, 12));
        CHECKS.throwsIt("cell(0, -1)", Checks.INDEX, () -> hall.cell(0, -1));
    }

    private static void touched() {
        CHECKS.begin("promise 4");
        PressHall hall = new PressHall();
        for (int zone = 0; zone < 3; zone++) {
            hall.advert(zone, 1, 1, false, -1, zone);
        }
        hall.place(2);
        CHECKS.is("touched, page 9", 16, hall.touched());
        hall.place(0);
        CHECKS.is("touched, pages 7 and 9", 24, hall.touched());
        hall.takeOff(0);
        hall.takeOff(2);
        CHECKS.is("touched, all taken off", 24, hall.touched());
        hall.close();
        CHECKS.is("touched after an edition", 0, hall.touched());
        hall.place(1);
        CHECKS.is("touched, page 8", 16, hall.touched());
        hall.sign(8, 0);
        hall.sign(8, 1);
        hall.close();
        hall.takeOff(1);
        CHECKS.is("touched by what goes", 16, hall.touched());
        hall.story(0, 1, 1);
        hall.lay(0);
        CHECKS.is("touched by a story", 17, hall.touched());
        hall.clean(4);
        CHECKS.is("touched, nothing to clean", 17, hall.touched());
    }

    private static void distance() {
        CHECKS.begin("promise 5");
        PressHall hall = new PressHall();
        CHECKS.is("distance at first", 1, hall.distance(3, 9));
        CHECKS.is("distance before", 9, hall.distance(3, 0));
        CHECKS.is("distance before", 0, hall.distance(3, 2));
        CHECKS.is("distance of another category", 1, hall.distance(0, 4));
        CHECKS.throwsIt("category 4", Checks.ARGUMENT, () -> hall.distance(4, 1));
        CHECKS.throwsIt("category -1", Checks.ARGUMENT, () -> hall.distance(-1, 1));
        CHECKS.throwsIt("distance 10", Checks.ARGUMENT, () -> hall.distance(3, 10));
        CHECKS.throwsIt("distance -1", Checks.ARGUMENT, () -> hall.distance(3, -1));
        CHECKS.is("distance after wrong calls", 2, hall.distance(3, 2));
        for (int i = 0; i < 4; i++) {
            hall.advert(3, 1, 1, false, -1, -1);
        }
        CHECKS.is("place", 0, hall.place(0));
        CHECKS.is("place 2 pages apart", 200, hall.place(1));
        hall.distance(3, 0);
        CHECKS.is("place with distance 0", 1, hall.place(2));
        hall.distance(3, 4);
        CHECKS.is("place 4 pages apart of all", 600, hall.place(3));
        hall.takeOff(3);
        hall.distance(3, 5);
        CHECKS.is("place 5 pages apart of all", -1, hall.place(3));
    }

    private static void advert() {
        CHECKS.begin("promise 6");
        PressHall hall = new PressHall();
        CHECKS.is("advert, all least", 0, hall.advert(0, 1, 1, false, -1, -1));
        CHECKS.is("advert, all greatest", 1, hall.advert(3, 3, 4, true, 3, 2));
        CHECKS.throwsIt("category -1", Checks.ARGUMENT, () -> hall.advert(-1, 1, 1, false, -1, -1));
        CHECKS.throwsIt("category 4", Checks.ARGUMENT, () -> hall.advert(4, 1, 1, false, -1, -1));
        CHECKS.throwsIt("width 0", Checks.ARGUMENT, () -> hall.advert(0, 0, 1, false, -1, -1));
        CHECKS.throwsIt("width 4", Checks.ARGUMENT, () -> hall.advert(0, 4, 1, false, -1, -1));
        CHECKS.throwsIt("height 0", Checks.ARGUMENT, () -> hall.advert(0, 1, 0, false, -1, -1));
        CHECKS.throwsIt("height 5", Checks.ARGUMENT, () -> hall.advert(0, 1, 5, false, -1, -1));
        CHECKS.throwsIt("section -2", Checks.ARGUMENT, () -> hall.advert(0, 1, 1, false, -2, -1));
        CHECKS.throwsIt("section 4", Checks.ARGUMENT, () -> hall.advert(0, 1, 1, false, 4, -1));
        CHECKS.throwsIt("zone -2", Checks.ARGUMENT, () -> hall.advert(0, 1, 1, false, -1, -2));
        CHECKS.throwsIt("zone 3", Checks.ARGUMENT, () -> hall.advert(0, 1, 1, false, -1, 3));
        for (int i = 2; i < 20; i++) {
            CHECKS.is("advert", i, hall.advert(i % 4, 1, 1, false, -1, -1));
        }
        CHECKS.throwsIt("advert 20", Checks.STATE, () -> hall.advert(0, 1, 1, false, -1, -1));
        CHECKS.throwsIt("advert 20, zone 3", Checks.ARGUMENT, () -> hall.advert(0, 1, 1, false, -1, 3));
        CHECKS.throwsIt("place(20)", Checks.INDEX, () -> hall.place(20));
        CHECKS.is("place(19)", 0, hall.place(19));
    }

    private static void place() {
        CHECKS.begin("promise 7");
        PressHall hall = new PressHall();
        for (int category = 0; category < 4; category++) {
            hall.distance(category, 0);
        }
        hall.advert(0, 2, 3, false, -1, -1);
        hall.advert(0, 1, 2, false, -1, -1);
        hall.advert(0, 2, 2, false, -1, -1);
        hall.advert(0, 3, 1, false, -1, -1);
        hall.advert(0, 3, 4, false, -1, 1);
        hall.advert(0, 1, 1, false, -1, 1);
        CHECKS.is("place 2 by 3", 0, hall.place(0));
        CHECKS.is("place 1 by 2", 2, hall.place(1));
        CHECKS.is("place 2 by 2 on the next page", 100, hall.place(2));
        CHECKS.is("place 3 by 1 in the last row", 9, hall.place(3));
        int[] due = {100, 100, 101, 100, 100, 101, 100, 100, 0, 103, 103, 103};
        for (int cell = 0; cell < 12; cell++) {
            CHECKS.is("cell " + cell, due[cell], hall.cell(0, cell));
        }
        CHECKS.is("place on the page of the zone 1", 800, hall.place(4));
        CHECKS.is("place on the page of the zone 1, full", -1, hall.place(5));
        CHECKS.is("touched", 17, hall.touched());
        CHECKS.throwsIt("place, placed", Checks.STATE, () -> hall.place(4));
        CHECKS.throwsIt("place(6)", Checks.INDEX, () -> hall.place(6));
        CHECKS.throwsIt("place(-1)", Checks.INDEX, () -> hall.place(-1));
        hall.takeOff(4);
        CHECKS.is("place, free again", 800, hall.place(5));
    }

    private static void placeBetween() {
        CHECKS.begin("promise 7, rectangles");
        PressHall hall = new PressHall();
        for (int category = 0; category < 4; category++) {
            hall.distance(category, 0);
        }
        hall.story(0, 9, 1);
        hall.lay(0);
        hall.advert(0, 1, 1, false, -1, -1);
        hall.advert(0, 3, 2, false, -1, -1);
        hall.advert(0, 2, 1, false, -1, -1);
        hall.advert(0, 1, 2, false, -1, -1);
        hall.advert(0, 2, 2, false, -1, -1);
        CHECKS.is("place", 1, hall.place(0));
        CHECKS.is("place below", 6, hall.place(1));
        CHECKS.is("place just above what is taken", 4, hall.place(2));
        CHECKS.is("place, not where a lower cell is taken", 100, hall.place(3));
        CHECKS.is("place, not over the edge of the row", 101, hall.place(4));
    }

    private static void placeByDistance() {
        CHECKS.begin("promise 7, distances");
        PressHall hall = new PressHall();
        hall.distance(1, 9);
        hall.advert(1, 1, 1, false, -1, 0);
        hall.advert(1, 1, 1, false, -1, 1);
        hall.advert(1, 1, 1, false, -1, 2);
        CHECKS.is("place, zone 0", 700, hall.place(0));
        CHECKS.is("place, zone 1: 10 apart", 800, hall.place(1));
        CHECKS.is("place, zone 2: 10 apart", 900, hall.place(2));
        hall.advert(1, 1, 1, false, -1, 2);
        CHECKS.is("place, zone 2 again", -1, hall.place(3));
        hall.advert(1, 1, 1, false, -1, -1);
        CHECKS.is("place, all copies", -1, hall.place(4));
        hall.distance(1, 7);
        CHECKS.is("place, page 0 being 7 apart from page 7", 0, hall.place(4));
        hall.advert(2, 1, 1, false, -1, -1);
        CHECKS.is("place of another category", 1, hall.place(5));
    }

    private static void placeByKind() {
        CHECKS.begin("promise 7, section and colour");
        PressHall hall = new PressHall();
        hall.page(2, 3, false);
        hall.page(4, 3, true);
        hall.page(7, 2, true);
        hall.advert(0, 1, 1, true, 3, -1);
        hall.advert(0, 1, 1, false, 3, -1);
        hall.advert(1, 1, 1, true, -1, -1);
        hall.advert(2, 1, 1, false, 3, 0);
        hall.advert(3, 1, 1, false, 2, 0);
        hall.advert(2, 1, 1, true, 2, -1);
        CHECKS.is("place, colour and section", 400, hall.place(0));
        CHECKS.is("place, section", 200, hall.place(1));
        CHECKS.is("place, colour", 401, hall.place(2));
        CHECKS.is("place, zone without the section", -1, hall.place(3));
        CHECKS.is("place without colour on a page with colour", 700, hall.place(4));
        CHECKS.is("place, all copies not on the page of a zone", -1, hall.place(5));
    }

    private static void takeOff() {
        CHECKS.begin("promise 8");
        PressHall hall = new PressHall();
        hall.story(0, 9, 1);
        hall.lay(0);
        hall.advert(0, 2, 2, false, -1, -1);
        hall.advert(0, 1, 1, false, -1, -1);
        CHECKS.throwsIt("takeOff, never placed", Checks.STATE, () -> hall.takeOff(0));
        CHECKS.is("place", 1, hall.place(0));
        hall.sign(0, 0);
        hall.sign(0, 1);
        hall.close();
        CHECKS.is("takeOff", 1, hall.takeOff(0));
        CHECKS.is("cell", 0, hall.cell(0, 1));
        CHECKS.is("cell", 0, hall.cell(0, 5));
        CHECKS.is("cell of the story", 200, hall.cell(0, 3));
        CHECKS.is("touched", 1, hall.touched());
        CHECKS.is("isReady, signatures gone", false, hall.isReady(0));
        CHECKS.throwsIt("takeOff, taken off", Checks.STATE, () -> hall.takeOff(0));
        CHECKS.throwsIt("takeOff(2)", Checks.INDEX, () -> hall.takeOff(2));
        CHECKS.throwsIt("takeOff(-1)", Checks.INDEX, () -> hall.takeOff(-1));
        CHECKS.is("place of its category, the page free of it", 1, hall.place(1));
        CHECKS.is("place again", 100, hall.place(0));
    }

    private static void advertsIn() {
        CHECKS.begin("promise 9");
        PressHall hall = new PressHall();
        CHECKS.is("advertsIn", 0, hall.advertsIn(0));
        int[] zones = {-1, 0, 2, -1, 2};
        for (int i = 0; i < zones.length; i++) {
            hall.advert(i % 4, 1, 1, false, -1, zones[i]);
        }
        CHECKS.is("advertsIn, none placed", 0, hall.advertsIn(0));
        for (int i = 0; i < zones.length; i++) {
            hall.place(i);
        }
        CHECKS.is("advertsIn(0)", 3, hall.advertsIn(0));
        CHECKS.is("advertsIn(1)", 2, hall.advertsIn(1));
        CHECKS.is("advertsIn(2)", 4, hall.advertsIn(2));
        hall.takeOff(2);
        hall.takeOff(0);
        CHECKS.is("advertsIn(2)", 2, hall.advertsIn(2));
        CHECKS.throwsIt("advertsIn(3)", Checks.INDEX, () -> hall.advertsIn(3));
        CHECKS.throwsIt("advertsIn(-1)", Checks.INDEX, () -> hall.advertsIn(-1));
    }

    public static void main(String[] args) {
        newObject();
        page();
        cell();
        touched();
        distance();
        advert();
        place();
        placeBetween();
        placeByDistance();
        placeByKind();
        takeOff();
        advertsIn();
        CHECKS.end();
    }
}
