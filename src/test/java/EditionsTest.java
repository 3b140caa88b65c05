/** Promises 15 to 26: people, editions, corrections and the press. */
public final class EditionsTest {
    private static final Checks CHECKS = new Checks();

    private EditionsTest() {
    }

    private static void signByTwo(PressHall hall, int page) {
        hall.sign(page, 0);
        hall.sign(page, 1);
    }

    private static long bit(boolean answer) {
        return answer ? 1 : 0;
    }

    /** A hall with the stories 0 to count - 1, of one cell each, on page 0, in the edition 0. */
    private static PressHall withEdition(int count) {
        PressHall hall = new PressHall();
        for (int i = 0; i < count; i++) {
            hall.story(0, 5, 1);
            hall.lay(i);
        }
        signByTwo(hall, 0);
        hall.close();
        return hall;
    }

    private static void person() {
        CHECKS.begin("promise 15");
        PressHall hall = withEdition(1);
        hall.sign(3, 5);
        hall.hold(2, 5);
        CHECKS.is("person leaves", false, hall.person(5));
        CHECKS.is("a hold of one who has left", true, hall.isReady(2));
        CHECKS.is("person comes back", true, hall.person(5));
        CHECKS.is("the hold does not come back", true, hall.isReady(2));
        CHECKS.is("nor does the signature", 1, hall.sign(3, 5));
        CHECKS.is("hold again", true, hall.hold(2, 5));
        CHECKS.is("isReady", true, hall.isReady(0));
        hall.person(0);
        CHECKS.is("isReady without a signature", false, hall.isReady(0));
        CHECKS.is("the other signature stays", 2, hall.sign(0, 2));
        CHECKS.is("touched", 0, hall.touched());
        CHECKS.throwsIt("person(6)", Checks.INDEX, () -> bit(hall.person(6)));
        CHECKS.throwsIt("person(-1)", Checks.INDEX, () -> bit(hall.person(-1)));
    }

    private static void sign() {
        CHECKS.begin("promise 16");
        PressHall hall = new PressHall();
        CHECKS.is("sign", 1, hall.sign(9, 5));
        CHECKS.is("sign", 2, hall.sign(9, 0));
        CHECKS.is("sign another page", 1, hall.sign(8, 0));
        CHECKS.throwsIt("sign twice", Checks.STATE, () -> hall.sign(9, 5));
        hall.person(3);
        CHECKS.throwsIt("sign by one who has left", Checks.STATE, () -> hall.sign(9, 3));
        CHECKS.throwsIt("page 10", Checks.INDEX, () -> hall.sign(10, 3));
        CHECKS.throwsIt("page -1", Checks.INDEX, () -> hall.sign(-1, 0));
        CHECKS.throwsIt("person 6", Checks.INDEX, () -> hall.sign(9, 6));
        CHECKS.throwsIt("person -1", Checks.INDEX, () -> hall.sign(9, -1));
        hall.person(3);
        CHECKS.is("sign by one who came back", 3, hall.sign(9, 3));
        hall.advert(0, 1, 1, false, -1, 2);
        hall.place(0);
        CHECKS.is("sign, the others gone", 1, hall.sign(9, 5));
        CHECKS.is("sign of another page, its signature kept", 2, hall.sign(8, 1));
        hall.takeOff(0);
        CHECKS.is("sign, gone again", 1, hall.sign(9, 5));
    }

    private static void hold() {
        CHECKS.begin("promise 17");
        PressHall hall = new PressHall();
        CHECKS.is("hold", true, hall.hold(4, 2));
        CHECKS.is("hold by another", true, hall.hold(4, 3));
        CHECKS.is("let go", false, hall.hold(4, 2));
        CHECKS.is("isReady, held by the other", false, hall.isReady(4));
        CHECKS.is("let go by the other", false, hall.hold(4, 3));
        CHECKS.is("isReady", true, hall.isReady(4));
        hall.person(2);
        CHECKS.throwsIt("hold by one who has left", Checks.STATE, () -> bit(hall.hold(4, 2)));
        CHECKS.throwsIt("page 10", Checks.INDEX, () -> bit(hall.hold(10, 2)));
        CHECKS.throwsIt("page -1", Checks.INDEX, () -> bit(hall.hold(-1, 0)));
        CHECKS.throwsIt("person 6", Checks.INDEX, () -> bit(hall.hold(4, 6)));
        CHECKS.throwsIt("person -1", Checks.INDEX, () -> bit(hall.hold(4, -1)));
        hall.hold(6, 1);
        hall.advert(0, 3, 4, false, -1, -1);
        hall.page(6, 1, false);
        hall.advert(0, 1, 1, false, 1, -1);
        hall.place(1);
        CHECKS.is("a hold stays when a cell changes: it is let go", false, hall.hold(6, 1));
    }

    private static void isReady() {
        CHECKS.begin("promise 18");
        PressHall hall = new PressHall();
        hall.advert(0, 1, 1, false, -1, -1);
        CHECKS.is("isReady, empty", true, hall.isReady(0));
        signByTwo(hall, 0);
        hall.place(0);
        CHECKS.is("isReady, signed before", false, hall.isReady(0));
        hall.sign(0, 4);
        CHECKS.is("isReady, signed by one", false, hall.isReady(0));
        hall.sign(0, 5);
        CHECKS.is("isReady, signed by two", true, hall.isReady(0));
        hall.sign(0, 0);
        CHECKS.is("isReady, signed by three", true, hall.isReady(0));
        hall.hold(0, 0);
        CHECKS.is("isReady, held", false, hall.isReady(0));
        hall.hold(0, 0);
        CHECKS.is("isReady, let go", true, hall.isReady(0));
        hall.takeOff(0);
        CHECKS.is("isReady, empty again", true, hall.isReady(0));
        hall.hold(9, 0);
        CHECKS.is("isReady, empty and held", false, hall.isReady(9));
        CHECKS.throwsIt("page 10", Checks.INDEX, () -> bit(hall.isReady(10)));
        CHECKS.throwsIt("page -1", Checks.INDEX, () -> bit(hall.isReady(-1)));
    }

    private static void close() {
        CHECKS.begin("promise 19");
        PressHall hall = new PressHall();
        hall.story(0, 9, 1);
        CHECKS.is("close, all empty", 0, hall.close());
        hall.lay(0);
        CHECKS.throwsIt("close, a page not ready", Checks.STATE, hall::close);
        CHECKS.is("touched", 1, hall.touched());
        signByTwo(hall, 0);
        hall.hold(9, 5);
        CHECKS.throwsIt("close, an empty page held", Checks.STATE, hall::close);
        hall.hold(9, 5);
        CHECKS.is("close", 1, hall.close());
        CHECKS.is("touched after that", 0, hall.touched());
        CHECKS.is("cell, as it was", 200, hall.cell(0, 0));
        CHECKS.is("isReady, still signed", true, hall.isReady(0));
        hall.correct(1, 0);
        CHECKS.throwsIt("close, a correction owed", Checks.STATE, hall::close);
        CHECKS.is("placeCorrection", 1, hall.placeCorrection());
        CHECKS.throwsIt("close, signatures gone", Checks.STATE, hall::close);
        signByTwo(hall, 0);
        for (int edition = 2; edition < 8; edition++) {
            CHECKS.is("close", edition, hall.close());
        }
        CHECKS.throwsIt("close, 8 editions", Checks.STATE, hall::close);
        CHECKS.throwsIt("printed, edition 8", Checks.INDEX, () -> hall.printed(8, 0, 0));
        CHECKS.is("printed, edition 7", 300, hall.printed(7, 0, 1));
    }

    private static void printed() {
        CHECKS.begin("promise 20");
        PressHall hall = withEdition(2);
        hall.advert(0, 1, 1, false, -1, 2);
        hall.place(0);
        hall.lift(0);
        hall.correct(0, 0);
        hall.placeCorrection();
        signByTwo(hall, 0);
        signByTwo(hall, 9);
        hall.close();
        CHECKS.is("printed, story", 200, hall.printed(0, 0, 0));
        CHECKS.is("printed, story", 201, hall.printed(0, 0, 3));
        CHECKS.is("printed, free", 0, hall.printed(0, 9, 0));
        CHECKS.is("printed, correction", 300, hall.printed(1, 0, 0));
        CHECKS.is("printed, advertisement", 100, hall.printed(1, 9, 0));
        CHECKS.is("printed, last cell", 0, hall.printed(1, 9, 11));
        hall.takeOff(0);
        CHECKS.is("printed stays", 100, hall.printed(1, 9, 0));
        CHECKS.throwsIt("edition 2", Checks.INDEX, () -> hall.printed(2, 0, 0));
        CHECKS.throwsIt("edition -1", Checks.INDEX, () -> hall.printed(-1, 0, 0));
        CHECKS.throwsIt("page 10", Checks.INDEX, () -> hall.printed(0, 10, 0));
        CHECKS.throwsIt("page -1", Checks.INDEX, () -> hall.printed(0, -1, 0));
        CHECKS.throwsIt("cell 12", Checks.INDEX, () -> hall.printed(0, 0, 12));
        CHECKS.throwsIt("cell -1", Checks.INDEX, () -> hall.printed(0, 0, -1));
    }

    private static void correct() {
        CHECKS.begin("promise 21");
        PressHall hall = withEdition(7);
        hall.story(0, 5, 1);
        CHECKS.throwsIt("correct, story not in it", Checks.STATE, () -> hall.correct(0, 7));
        CHECKS.throwsIt("edition 1", Checks.INDEX, () -> hall.correct(1, 0));
        CHECKS.throwsIt("edition -1", Checks.INDEX, () -> hall.correct(-1, 0));
        CHECKS.throwsIt("story 8", Checks.INDEX, () -> hall.correct(0, 8));
        CHECKS.throwsIt("story -1", Checks.INDEX, () -> hall.correct(0, -1));
        hall.lift(6);
        CHECKS.is("correct, lifted since", 1, hall.correct(0, 6));
        CHECKS.throwsIt("correct, owed", Checks.STATE, () -> hall.correct(0, 6));
        for (int story = 0; story < 4; story++) {
            CHECKS.is("correct", story + 2, hall.correct(0, story));
        }
        CHECKS.throwsIt("correct, 5 owed", Checks.STATE, () -> hall.correct(0, 4));
        CHECKS.is("placeCorrection", 2, hall.placeCorrection());
        CHECKS.is("correct, one placed", 5, hall.correct(0, 4));
        hall.placeCorrection();
        CHECKS.is("correct, placed before", 5, hall.correct(0, 6));
    }

    private static void correctOfCorrection() {
        CHECKS.begin("promise 21, a correction is no story");
        PressHall hall = withEdition(1);
        hall.correct(0, 0);
        hall.placeCorrection();
        hall.lift(0);
        signByTwo(hall, 0);
        hall.close();
        CHECKS.is("printed", 300, hall.printed(1, 0, 1));
        CHECKS.throwsIt("correct, with its correction alone", Checks.STATE, () -> hall.correct(1, 0));
        CHECKS.is("correct, of the edition before", 1, hall.correct(0, 0));
    }

    private static void placeCorrection() {
        CHECKS.begin("promise 22");
        PressHall hall = new PressHall();
        for (int page = 0; page < 10; page++) {
            hall.page(page, page < 2 || page > 6 ? 2 : page == 6 ? 1 : 0, false);
        }
        hall.story(2, 999999, 6);
        hall.story(2, 99999, 5);
        hall.story(1, 5, 1);
        for (int story = 0; story < 3; story++) {
            hall.lay(story);
        }
        CHECKS.is("part of story 0", 11, hall.part(0, 0));
        CHECKS.is("part of story 1", 10009, hall.part(1, 0));
        CHECKS.throwsIt("placeCorrection, none owed", Checks.STATE, hall::placeCorrection);
        signByTwo(hall, 0);
        signByTwo(hall, 1);
        signByTwo(hall, 6);
        hall.close();
        hall.correct(0, 1);
        hall.correct(0, 2);
        hall.correct(0, 0);
        CHECKS.is("placeCorrection of story 1, the last cell of page 0", 11, hall.placeCorrection());
        CHECKS.is("cell", 301, hall.cell(0, 11));
        CHECKS.is("placeCorrection of story 2", 601, hall.placeCorrection());
        CHECKS.is("touched", 9, hall.touched());
        CHECKS.is("isReady, signatures gone", false, hall.isReady(6));
        CHECKS.is("placeCorrection of story 0, the lowest cell of page 1", 105, hall.placeCorrection());
        for (int due : new int[] {108, 111}) {
            hall.correct(0, 0);
            CHECKS.is("placeCorrection", due, hall.placeCorrection());
        }
        hall.correct(0, 0);
        CHECKS.is("placeCorrection, not on the page of a zone", -1, hall.placeCorrection());
        CHECKS.throwsIt("correct, still owed", Checks.STATE, () -> hall.correct(0, 0));
        hall.clean(0);
        CHECKS.is("placeCorrection, a cell free again", 11, hall.placeCorrection());
    }

    private static void clean() {
        CHECKS.begin("promise 23");
        PressHall hall = withEdition(3);
        hall.advert(0, 1, 1, false, -1, -1);
        hall.place(0);
        hall.lift(0);
        for (int story = 0; story < 3; story++) {
            hall.correct(0, story);
            hall.placeCorrection();
        }
        hall.lift(1);
        CHECKS.is("correction in the first cell", 300, hall.cell(0, 0));
        signByTwo(hall, 0);
        hall.close();
        CHECKS.is("clean of another page", 0, hall.clean(1));
        CHECKS.is("touched", 0, hall.touched());
        CHECKS.is("isReady", true, hall.isReady(0));
        CHECKS.is("clean", 3, hall.clean(0));
        CHECKS.is("touched", 1, hall.touched());
        CHECKS.is("isReady, signatures gone", false, hall.isReady(0));
        int[] due = {0, 100, 0, 0, 0, 0, 202, 0, 0, 0, 0, 0};
        for (int cell = 0; cell < 12; cell++) {
            CHECKS.is("cell " + cell, due[cell], hall.cell(0, cell));
        }
        CHECKS.is("clean again", 0, hall.clean(0));
        CHECKS.is("clean, page 9", 0, hall.clean(9));
        CHECKS.throwsIt("page 10", Checks.INDEX, () -> hall.clean(10));
        CHECKS.throwsIt("page -1", Checks.INDEX, () -> hall.clean(-1));
    }

    private static void pass() {
        CHECKS.begin("promise 24");
        PressHall hall = new PressHall();
        CHECKS.is("pass", 1, hall.pass(1));
        CHECKS.is("pass", 101, hall.pass(100));
        CHECKS.throwsIt("minutes 0", Checks.ARGUMENT, () -> hall.pass(0));
        CHECKS.throwsIt("minutes 101", Checks.ARGUMENT, () -> hall.pass(101));
        CHECKS.throwsIt("minutes -1", Checks.ARGUMENT, () -> hall.pass(-1));
        CHECKS.is("pass", 103, hall.pass(2));
    }

    private static void truck() {
        CHECKS.begin("promise 25");
        PressHall hall = new PressHall();
        CHECKS.is("truck, all least", 0, hall.truck(0, 1));
        CHECKS.is("truck, all greatest", 1, hall.truck(1000, 5000));
        CHECKS.throwsIt("minute -1", Checks.ARGUMENT, () -> hall.truck(-1, 1));
        CHECKS.throwsIt("minute 1001", Checks.ARGUMENT, () -> hall.truck(1001, 1));
        CHECKS.throwsIt("copies 0", Checks.ARGUMENT, () -> hall.truck(0, 0));
        CHECKS.throwsIt("copies 5001", Checks.ARGUMENT, () -> hall.truck(0, 5001));
        for (int i = 2; i < 6; i++) {
            CHECKS.is("truck", i, hall.truck(5, 50));
        }
        CHECKS.throwsIt("truck 6", Checks.STATE, () -> hall.truck(5, 50));
        CHECKS.throwsIt("truck 6, copies 0", Checks.ARGUMENT, () -> hall.truck(5, 0));
    }

    private static void late() {
        CHECKS.begin("promise 26");
        PressHall hall = new PressHall();
        hall.pass(20);
        hall.close();
        hall.pass(100);
        hall.truck(20, 50);
        CHECKS.is("late by the first minute", 1, hall.late(0, 0));
        hall.truck(21, 1);
        CHECKS.is("late by one copy more", 1, hall.late(0, 1));
        hall.truck(22, 49);
        CHECKS.is("not late", 0, hall.late(0, 2));
        hall.truck(0, 101);
        CHECKS.is("late, loaded first", 23, hall.late(0, 3));
        CHECKS.is("late, one ahead", 4, hall.late(0, 0));
        CHECKS.is("late, two ahead", 3, hall.late(0, 1));
        hall.truck(1000, 5000);
        CHECKS.is("far from late", 0, hall.late(0, 4));
        hall.truck(20, 49);
        CHECKS.is("late, behind the one of its minute", 4, hall.late(0, 5));
        CHECKS.is("late, not behind the later one", 4, hall.late(0, 0));
        CHECKS.is("late, two of a minute ahead", 4, hall.late(0, 1));
        hall.close();
        CHECKS.is("late with the next edition", 104, hall.late(1, 0));
        CHECKS.throwsIt("edition 2", Checks.INDEX, () -> hall.late(2, 0));
        CHECKS.throwsIt("edition -1", Checks.INDEX, () -> hall.late(-1, 0));
        CHECKS.throwsIt("truck 6", Checks.INDEX, () -> hall.late(0, 6));
        CHECKS.throwsIt("truck -1", Checks.INDEX, () -> hall.late(0, -1));
    }

    public static void main(String[] args) {
        person();
        sign();
        hold();
        isReady();
        close();
        printed();
        correct();
        correctOfCorrection();
        placeCorrection();
        clean();
        pass();
        truck();
        late();
        CHECKS.end();
    }
}
