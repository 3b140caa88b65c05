/** Promises 10 to 14: stories. */
public final class StoriesTest {
    private static final Checks CHECKS = new Checks();

    private StoriesTest() {
    }

    private static void story() {
        CHECKS.begin("promise 10");
        PressHall hall = new PressHall();
        CHECKS.is("story, all least", 0, hall.story(0, 1, 1));
        CHECKS.is("story, all greatest", 1, hall.story(3, 999999, 6));
        CHECKS.throwsIt("section -1", Checks.ARGUMENT, () -> hall.story(-1, 1, 1));
        CHECKS.throwsIt("section 4", Checks.ARGUMENT, () -> hall.story(4, 1, 1));
        CHECKS.throwsIt("lines 0", Checks.ARGUMENT, () -> hall.story(0, 0, 1));
        CHECKS.throwsIt("lines 10", Checks.ARGUMENT, () -> hall.story(0, 10, 1));
        CHECKS.throwsIt("lines 909", Checks.ARGUMENT, () -> hall.story(0, 909, 1));
        CHECKS.throwsIt("lines 1111111", Checks.ARGUMENT, () -> hall.story(0, 1111111, 1));
        CHECKS.throwsIt("lines 1000000", Checks.ARGUMENT, () -> hall.story(0, 1000000, 1));
        CHECKS.throwsIt("lines -11", Checks.ARGUMENT, () -> hall.story(0, -11, 1));
        CHECKS.throwsIt("lines, least int", Checks.ARGUMENT, () -> hall.story(0, Integer.MIN_VALUE, 1));
        CHECKS.throwsIt("lines, greatest int", Checks.ARGUMENT, () -> hall.story(0, Integer.MAX_VALUE, 1));
        CHECKS.throwsIt("least 0", Checks.ARGUMENT, () -> hall.story(0, 123, 0));
        CHECKS.throwsIt("least 4", Checks.ARGUMENT, () -> hall.story(0, 123, 4));
        for (int i = 2; i < 20; i++) {
            CHECKS.is("story", i, hall.story(0, 123, 3));
        }
        CHECKS.throwsIt("story 20", Checks.STATE, () -> hall.story(0, 1, 1));
        CHECKS.throwsIt("story 20, lines 0", Checks.ARGUMENT, () -> hall.story(0, 0, 1));
        CHECKS.throwsIt("lay(20)", Checks.INDEX, () -> hall.lay(20));
    }

    /** Takes all cells of the pages from one to another with advertisements of 3 by 4. */
    private static void fill(PressHall hall, int count) {
        for (int i = 0; i < count; i++) {
            hall.place(hall.advert(0, 3, 4, false, -1, -1));
        }
    }

    private static void layOnOnePage() {
        CHECKS.begin("promise 11, one page");
        PressHall hall = new PressHall();
        hall.story(0, 55, 1);
        hall.story(0, 56, 1);
        hall.story(0, 9999, 1);
        CHECKS.is("lay, 10 lines", 2, hall.lay(0));
        CHECKS.is("part of 2 cells", 2, hall.part(0, 0));
        CHECKS.is("lay, 11 lines", 2, hall.lay(1));
        CHECKS.is("part of 3 cells", 603, hall.part(1, 0));
        CHECKS.is("cells in the order of columns", 201, hall.cell(0, 1));
        CHECKS.is("lay, 36 lines on the next page", 4, hall.lay(2));
        CHECKS.is("part of 8 cells", 10008, hall.part(2, 0));
        CHECKS.throwsIt("lay, laid out", Checks.STATE, () -> hall.lay(2));
        CHECKS.throwsIt("lay(3)", Checks.INDEX, () -> hall.lay(3));
        CHECKS.throwsIt("lay(-1)", Checks.INDEX, () -> hall.lay(-1));
        CHECKS.is("lift", 2, hall.lift(0));
        hall.story(0, 5, 1);
        CHECKS.is("lay in the first free cells", 1, hall.lay(3));
        CHECKS.is("part in the first free cells", 1, hall.part(3, 0));
    }

    private static void layInTwoParts() {
        CHECKS.begin("promise 11, two parts");
        PressHall hall = new PressHall();
        hall.page(1, 1, false);
        hall.page(3, 1, false);
        hall.distance(1, 0);
        hall.advert(1, 2, 4, false, 1, -1);
        hall.advert(1, 1, 2, false, 1, -1);
        hall.advert(1, 2, 4, false, 1, -1);
        CHECKS.is("place", 100, hall.place(0));
        CHECKS.is("place", 102, hall.place(1));
        CHECKS.is("place", 300, hall.place(2));
        // Free are the cells 8 and 11 of page 1, and the column 2 of page 3.
        hall.story(1, 55599, 5);
        CHECKS.is("lay in two parts", 5, hall.lay(0));
        CHECKS.is("greatest first part, first page with room", 30203, hall.part(0, 0));
        CHECKS.is("page of section 0 behind it", 40004, hall.part(0, 1));
        hall.lift(0);
        hall.story(1, 19999, 2);
        CHECKS.is("lay on page 1 and behind", 5, hall.lay(1));
        CHECKS.is("first part of 19 lines on page 3", 30204, hall.part(1, 0));
        CHECKS.is("second part", 40004, hall.part(1, 1));
        hall.story(0, 1, 1);
        CHECKS.is("lay on one page after that", 1, hall.lay(2));
        CHECKS.is("no second part", -1, hall.part(2, 1));
        hall.story(1, 45949, 3);
        CHECKS.is("lay, page 1 with 9 lines", 5, hall.lay(3));
        CHECKS.is("first part on page 1", 10802, hall.part(3, 0));
        CHECKS.is("second part not ahead of it", 20005, hall.part(3, 1));
    }

    private static void layOnLowPages() {
        CHECKS.begin("promise 11, low pages first, whatever plates they touch");
        PressHall hall = new PressHall();
        hall.page(0, 1, false);
        hall.page(1, 2, false);
        hall.page(2, 1, false);
        hall.advert(0, 1, 3, false, 1, -1);
        hall.advert(1, 2, 4, false, 1, -1);
        hall.advert(0, 1, 3, false, 1, -1);
        hall.advert(1, 2, 4, false, 1, -1);
        CHECKS.is("place", 0, hall.place(0));
        CHECKS.is("place", 1, hall.place(1));
        CHECKS.is("place", 200, hall.place(2));
        CHECKS.is("place", 201, hall.place(3));
        // Free is the cell 9 of the pages 0 and 2; so one paragraph goes ahead.
        hall.story(1, 55, 2);
        CHECKS.is("lay", 2, hall.lay(0));
        CHECKS.is("first part on page 0", 901, hall.part(0, 0));
        CHECKS.is("second part on page 3", 30001, hall.part(0, 1));
        CHECKS.is("cells", 200, hall.cell(3, 0));
        CHECKS.is("touched", 3, hall.touched());
    }

    private static void layFewer() {
        CHECKS.begin("promise 11, fewer paragraphs");
        PressHall hall = new PressHall();
        fill(hall, 6);
        hall.advert(1, 3, 2, false, -1, -1);
        CHECKS.is("place", 600, hall.place(6));
        // Free are the cells 6, 9, 7, 10, 8, 11 of page 6: three runs of 2 cells.
        hall.story(0, 9215, 2);
        CHECKS.is("lay, cut to 10 lines less", 0, hall.lay(0));
        hall.story(0, 9125, 2);
        CHECKS.is("lay, cut to 10 lines", 2, hall.lay(1));
        CHECKS.is("part", 60602, hall.part(1, 0));
        CHECKS.is("no second part", -1, hall.part(1, 1));
        hall.story(3, 1, 1);
        CHECKS.is("lay without a page of the section", 0, hall.lay(2));
        hall.page(7, 3, false);
        CHECKS.is("lay with a page of a zone", 0, hall.lay(2));
        CHECKS.is("touched", 15, hall.touched());
    }

    private static void lift() {
        CHECKS.begin("promise 12");
        PressHall hall = new PressHall();
        hall.page(1, 1, false);
        hall.story(1, 999999, 5);
        hall.story(1, 99999, 5);
        CHECKS.throwsIt("lift, never laid out", Checks.STATE, () -> hall.lift(0));
        hall.lay(0);
        CHECKS.is("part of 11 cells", 10011, hall.part(0, 0));
        CHECKS.is("lay", 0, hall.lay(1));
        hall.sign(1, 0);
        hall.sign(1, 1);
        hall.close();
        CHECKS.is("lift", 6, hall.lift(0));
        CHECKS.is("touched", 1, hall.touched());
        CHECKS.is("cell", 0, hall.cell(1, 0));
        CHECKS.is("part", -1, hall.part(0, 0));
        CHECKS.throwsIt("lift, lifted", Checks.STATE, () -> hall.lift(0));
        CHECKS.throwsIt("lift(2)", Checks.INDEX, () -> hall.lift(2));
        CHECKS.throwsIt("lift(-1)", Checks.INDEX, () -> hall.lift(-1));
        CHECKS.is("lay", 5, hall.lay(1));
        hall.lay(0);
        CHECKS.is("lift of two parts", 5, hall.lift(1));
    }

    private static void changeErrors() {
        CHECKS.begin("promise 13, wrong calls");
        PressHall hall = new PressHall();
        hall.story(0, 9, 1);
        hall.story(0, 9, 1);
        CHECKS.throwsIt("change, old not laid out", Checks.STATE, () -> hall.change(0, 1));
        hall.lay(0);
        CHECKS.throwsIt("change of itself", Checks.STATE, () -> hall.change(0, 0));
        CHECKS.throwsIt("change(0, 2)", Checks.INDEX, () -> hall.change(0, 2));
        CHECKS.throwsIt("change(2, 1)", Checks.INDEX, () -> hall.change(2, 1));
        CHECKS.throwsIt("change(-1, 1)", Checks.INDEX, () -> hall.change(-1, 1));
        hall.lay(1);
        CHECKS.throwsIt("change, fresh laid out", Checks.STATE, () -> hall.change(0, 1));
        hall.story(2, 9, 1);
        CHECKS.is("change without a way", -1, hall.change(0, 2));
        CHECKS.is("part of the old one", 2, hall.part(0, 0));
        CHECKS.is("part of the fresh one", -1, hall.part(2, 0));
    }

    private static void change() {
        CHECKS.begin("promise 13");
        PressHall hall = new PressHall();
        hall.story(0, 999999, 6);
        hall.story(0, 999999, 6);
        hall.story(0, 9, 1);
        hall.story(0, 999999, 6);
        for (int story = 0; story < 3; story++) {
            hall.lay(story);
        }
        CHECKS.is("part of the third story", 20002, hall.part(2, 0));
        for (int page = 0; page < 3; page++) {
            hall.sign(page, 0);
            hall.sign(page, 1);
        }
        hall.close();
        // The page 2 has no 11 free cells but with those of the old one; the page 3 is on the same plate.
        CHECKS.is("change, plate 1 alone", 1, hall.change(2, 3));
        CHECKS.is("part in the cells of the old one", 20011, hall.part(3, 0));
        CHECKS.is("old one out", -1, hall.part(2, 0));
        CHECKS.is("touched", 2, hall.touched());
        CHECKS.is("isReady, signatures gone", false, hall.isReady(2));
        CHECKS.is("isReady of another page", true, hall.isReady(0));
        CHECKS.is("lay the old one again", 1, hall.lay(2));
        CHECKS.is("part of the old one", 30002, hall.part(2, 0));
        hall.lift(2);
        CHECKS.is("change, nothing touched anew", 0, hall.change(3, 2));
        CHECKS.is("part on the plate that is touched", 20002, hall.part(2, 0));
    }

    private static void changeTouchesLeast() {
        CHECKS.begin("promise 13, fewest plates");
        PressHall hall = new PressHall();
        hall.page(0, 1, false);
        hall.page(2, 1, false);
        hall.page(5, 1, false);
        hall.story(1, 9, 1);
        hall.story(1, 999999, 6);
        hall.story(1, 999999, 6);
        hall.story(1, 5, 1);
        hall.lay(1);
        hall.lay(2);
        hall.lay(0);
        CHECKS.is("part on page 5", 50002, hall.part(0, 0));
        for (int page = 0; page < 10; page++) {
            hall.sign(page, 0);
            hall.sign(page, 1);
        }
        hall.close();
        CHECKS.is("change stays on the plate of the old one", 1, hall.change(0, 3));
        CHECKS.is("part, though page 0 has a cell", 50001, hall.part(3, 0));
        hall.lift(3);
        CHECKS.is("touched", 4, hall.touched());
        CHECKS.is("change from the plate 0 to the plate 2", 1, hall.change(1, 0));
        CHECKS.is("the first way of those that touch as few", 2, hall.part(0, 0));
        int[] due = {200, 0, 0, 200, 0, 0, 0, 0, 0, 0, 0, 0};
        for (int cell = 0; cell < 12; cell++) {
            CHECKS.is("cell " + cell, due[cell], hall.cell(0, cell));
        }
        CHECKS.is("touched", 5, hall.touched());
    }

    private static void changeInTwoParts() {
        CHECKS.begin("promise 13, two parts");
        PressHall hall = new PressHall();
        hall.page(2, 1, false);
        hall.page(4, 2, false);
        hall.page(5, 2, false);
        hall.page(6, 0, false);
        hall.story(1, 99, 1);
        hall.lay(0);
        hall.advert(1, 2, 4, false, 1, -1);
        hall.sign(2, 0);
        hall.sign(2, 1);
        hall.close();
        // Page 2 takes 12 cells at the most: 60 lines; so the column 0 goes, and the others are taken.
        CHECKS.is("place beside the story", 201, hall.place(0));
        hall.story(1, 9999, 4);
        hall.sign(2, 0);
        hall.sign(2, 1);
        hall.close();
        CHECKS.is("change into two parts", 1, hall.change(0, 1));
        CHECKS.is("first part with 2 paragraphs", 20004, hall.part(1, 0));
        CHECKS.is("second part on the page 3, of the same plate", 30004, hall.part(1, 1));
        CHECKS.is("touched", 2, hall.touched());
    }

    private static void changeByTouchedPlate() {
        CHECKS.begin("promise 13, a second page that is touched");
        PressHall hall = new PressHall();
        hall.page(1, 1, false);
        hall.page(2, 2, false);
        hall.page(3, 2, false);
        hall.story(1, 99, 1);
        hall.lay(0);
        hall.advert(1, 2, 4, false, 1, -1);
        hall.place(0);
        for (int person = 0; person < 2; person++) {
            hall.sign(1, person);
        }
        hall.close();
        hall.advert(2, 1, 1, false, 3, -1);
        hall.page(6, 3, false);
        hall.place(1);
        hall.takeOff(1);
        hall.page(6, 0, false);
        CHECKS.is("touched", 8, hall.touched());
        hall.story(1, 9999, 4);
        // The pages 4 and 5 are of the plate 2, that is not touched; the page 6 of the plate 3, that is.
        CHECKS.is("change", 1, hall.change(0, 1));
        CHECKS.is("first part", 10004, hall.part(1, 0));
        CHECKS.is("second part on page 6", 60004, hall.part(1, 1));
        CHECKS.is("touched", 9, hall.touched());
    }

    /** A hall whose story 0, of section 1, lies on the cell 9 of page 1 and the cell 0 of page 4, in an edition. */
    private static PressHall withTwoParts() {
        PressHall hall = new PressHall();
        hall.page(1, 1, false);
        hall.page(2, 2, false);
        hall.page(3, 2, false);
        hall.place(hall.advert(0, 3, 3, false, 1, -1));
        hall.story(1, 55, 2);
        hall.lay(0);
        CHECKS.is("first part", 10901, hall.part(0, 0));
        CHECKS.is("second part", 40001, hall.part(0, 1));
        for (int page : new int[] {1, 4}) {
            hall.sign(page, 0);
            hall.sign(page, 1);
        }
        hall.close();
        hall.story(0, 999999, 6);
        return hall;
    }

    private static void changeOfTwoPlates() {
        CHECKS.begin("promise 13, what goes touches two plates");
        PressHall hall = withTwoParts();
        CHECKS.is("change, the plates 0 and 2", 2, hall.change(0, 1));
        CHECKS.is("part on page 0, as costless as page 4", 11, hall.part(1, 0));
        CHECKS.is("touched", 5, hall.touched());
        CHECKS.is("cell of the first part", 0, hall.cell(1, 9));
        CHECKS.is("cell of the second part", 0, hall.cell(4, 0));
        CHECKS.is("isReady, signatures gone", false, hall.isReady(1));

        PressHall other = withTwoParts();
        other.place(other.advert(1, 3, 4, false, 0, -1));
        other.sign(0, 0);
        other.sign(0, 1);
        other.close();
        other.page(2, 0, false);
        CHECKS.is("change, the plates 0 and 2", 2, other.change(0, 1));
        CHECKS.is("part on page 4, not on page 2", 40011, other.part(1, 0));
        CHECKS.is("touched", 5, other.touched());
    }

    private static void changeByPlateOfFirstPart() {
        CHECKS.begin("promise 13, the plate of a first part");
        PressHall hall = new PressHall();
        hall.page(1, 1, false);
        hall.page(2, 2, false);
        hall.page(3, 1, false);
        hall.place(hall.advert(0, 3, 3, false, 1, -1));
        hall.place(hall.advert(0, 3, 3, false, 1, -1));
        for (int story = 0; story < 4; story++) {
            hall.story(1, 5, 1);
            hall.lay(story);
        }
        CHECKS.is("part", 30901, hall.part(3, 0));
        hall.lift(0);
        for (int page : new int[] {1, 3}) {
            hall.sign(page, 0);
            hall.sign(page, 1);
        }
        hall.close();
        hall.page(4, 3, false);
        hall.place(hall.advert(1, 1, 1, false, 3, -1));
        hall.takeOff(2);
        hall.page(4, 0, false);
        CHECKS.is("touched", 4, hall.touched());
        hall.story(1, 55, 2);
        // Page 1 has a cell too, but is on a plate that is not touched.
        CHECKS.is("change", 1, hall.change(3, 4));
        CHECKS.is("first part", 30901, hall.part(4, 0));
        CHECKS.is("second part", 40001, hall.part(4, 1));
        CHECKS.is("touched", 6, hall.touched());
    }

    private static void part() {
        CHECKS.begin("promise 14");
        PressHall hall = new PressHall();
        hall.story(0, 9, 1);
        CHECKS.is("part, not laid out", -1, hall.part(0, 0));
        CHECKS.is("part, not laid out", -1, hall.part(0, 1));
        hall.lay(0);
        CHECKS.is("part 0", 2, hall.part(0, 0));
        CHECKS.is("part 1", -1, hall.part(0, 1));
        CHECKS.throwsIt("part 2", Checks.ARGUMENT, () -> hall.part(0, 2));
        CHECKS.throwsIt("part -1", Checks.ARGUMENT, () -> hall.part(0, -1));
        CHECKS.throwsIt("story 1, part 2", Checks.INDEX, () -> hall.part(1, 2));
        CHECKS.throwsIt("story -1", Checks.INDEX, () -> hall.part(-1, 0));
        hall.advert(0, 2, 1, false, -1, -1);
        CHECKS.is("place", 1, hall.place(0));
        hall.story(0, 999, 3);
        CHECKS.is("lay", 3, hall.lay(1));
        CHECKS.is("first cell on the next page", 10006, hall.part(1, 0));
        hall.story(0, 91, 1);
        CHECKS.is("lay", 2, hall.lay(2));
        CHECKS.is("first cell is told as the cell", 602, hall.part(2, 0));
    }

    public static void main(String[] args) {
        story();
        layOnOnePage();
        layInTwoParts();
        layOnLowPages();
        layFewer();
        lift();
        changeErrors();
        change();
        changeTouchesLeast();
        changeInTwoParts();
        changeByTouchedPlate();
        changeOfTwoPlates();
        changeByPlateOfFirstPart();
        part();
        CHECKS.end();
    }
}
