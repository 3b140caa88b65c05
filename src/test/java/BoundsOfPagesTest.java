/** The sentences of the document that name a boundary: the object, the constants, pages (promises 1 to 4). */
public final class BoundsOfPagesTest {
    private static final Checks CHECKS = new Checks();
    private static final Twins FRESH = new Twins(CHECKS, PressHall::new);
    private static final Twins BUSY = new Twins(CHECKS, Halls::busy);
    private static final Twins FULL = new Twins(CHECKS, Halls::full);

    private BoundsOfPagesTest() {
    }

    private static long page(PressHall hall, int page, int section, boolean colour) {
        hall.page(page, section, colour);
        return 0;
    }

    // ---- the object

    private static void usedForAtMost512Calls() {
        CHECKS.begin("an object is used for at most 512 calls");
        PressHall hall = new PressHall();
        for (int call = 1; call <= 512; call++) {
            CHECKS.is("pass", 100 * call, hall.pass(100));
        }
        PressHall other = new PressHall();
        for (int call = 1; call <= 511; call++) {
            CHECKS.throwsIt("refused call", Checks.STATE, other::take);
        }
        CHECKS.is("the call behind 511 refused ones", 288, other.solutions());
    }

    /** What comes and goes again has to find its room again, to the last call. */
    private static void roomIsFreeAgainFor512Calls() {
        CHECKS.begin("at most 512 calls: what goes leaves its room");
        PressHall hall = new PressHall();
        hall.advert(0, 3, 4, true, -1, -1);
        hall.story(1, 999999, 6);
        hall.page(6, 1, true);
        for (int i = 0; i < 60; i++) {
            CHECKS.is("place", 600, hall.place(0));
            CHECKS.is("takeOff", 600, hall.takeOff(0));
            CHECKS.is("lay", 6, hall.lay(0));
            CHECKS.is("lift", 6, hall.lift(0));
            CHECKS.is("wire", 0, hall.wire(65535, i % 10));
            CHECKS.is("take", 65535, hall.take());
            CHECKS.is("word", 1, hall.word(1 + i % 20, 1));
            CHECKS.is("dropWords", 1, hall.dropWords());
        }
    }

    private static void correctionsFindRoomFor512Calls() {
        CHECKS.begin("at most 512 calls: corrections that are placed are owed no more");
        PressHall hall = new PressHall();
        hall.story(0, 5, 1);
        hall.lay(0);
        Halls.closeSigned(hall);
        for (int i = 0; i < 120; i++) {
            CHECKS.is("correct", 1, hall.correct(0, 0));
            CHECKS.is("placeCorrection", 1, hall.placeCorrection());
            CHECKS.is("clean", 1, hall.clean(0));
            CHECKS.is("person", i % 2 == 1, hall.person(5));
        }
    }

    private static void constants() {
        CHECKS.begin("NONE = -1: None");
        CHECKS.is("NONE", -1, PressHall.NONE);
        CHECKS.is("advert for any section and all copies", 0,
                new PressHall().advert(0, 1, 1, false, PressHall.NONE, PressHall.NONE));
    }

    // ---- promise 1

    private static void anEmptyPaper() {
        CHECKS.begin("promise 1, an empty paper");
        PressHall hall = new PressHall();
        for (int page = 0; page < 10; page++) {
            for (int cell = 0; cell < 12; cell++) {
                CHECKS.is("cell", 0, hall.cell(page, cell));
            }
            CHECKS.is("isReady, empty and held by nobody", true, hall.isReady(page));
            CHECKS.is("clean", 0, hall.clean(page));
        }
        for (int zone = 0; zone < 3; zone++) {
            CHECKS.is("advertsIn", 0, hall.advertsIn(zone));
        }
        for (int category = 0; category < 4; category++) {
            CHECKS.is("distance at first", 1, hall.distance(category, 1));
        }
        for (int row = 0; row < 6; row++) {
            CHECKS.is("weights, 0 at first", 0, hall.weigh(row, 0));
        }
        CHECKS.is("touched", 0, hall.touched());
        CHECKS.is("fit without words", 0, hall.fit(0));
        CHECKS.is("dropWords", 0, hall.dropWords());
        CHECKS.is("solutions of a puzzle without numbers", 288, hall.solutions());
    }

    private static void nothingIsThereAtFirst() {
        CHECKS.begin("promise 1, an empty paper has nothing with a number");
        FRESH.refuse("place(0)", Checks.INDEX, hall -> hall.place(0));
        FRESH.refuse("takeOff(0)", Checks.INDEX, hall -> hall.takeOff(0));
        FRESH.refuse("lay(0)", Checks.INDEX, hall -> hall.lay(0));
        FRESH.refuse("lift(0)", Checks.INDEX, hall -> hall.lift(0));
        FRESH.refuse("change(0, 0)", Checks.INDEX, hall -> hall.change(0, 0));
        FRESH.refuse("part(0, 0)", Checks.INDEX, hall -> hall.part(0, 0));
        FRESH.refuse("printed(0, 0, 0)", Checks.INDEX, hall -> hall.printed(0, 0, 0));
        FRESH.refuse("correct(0, 0)", Checks.INDEX, hall -> hall.correct(0, 0));
        FRESH.refuse("late(0, 0)", Checks.INDEX, hall -> hall.late(0, 0));
        FRESH.refuse("placeCorrection()", Checks.STATE, PressHall::placeCorrection);
        FRESH.refuse("take()", Checks.STATE, PressHall::take);
    }

    private static void theFirstNumbers() {
        CHECKS.begin("promise 1, an empty paper: all that comes first has the number 0, all that is counted is 1");
        PressHall hall = new PressHall();
        CHECKS.is("advert", 0, hall.advert(0, 1, 1, false, -1, -1));
        CHECKS.is("story", 0, hall.story(0, 1, 1));
        CHECKS.is("truck", 0, hall.truck(0, 1));
        CHECKS.is("close", 0, hall.close());
        CHECKS.is("late, the minute being 0", 1, hall.late(0, 0));
        CHECKS.is("wire", 0, hall.wire(0, 0));
        CHECKS.is("word", 1, hall.word(1, 1));
        CHECKS.is("pass", 1, hall.pass(1));
    }

    private static void allPeopleAreThere() {
        CHECKS.begin("promise 1, all people are there");
        for (int page = 0; page < 10; page++) {
            PressHall hall = new PressHall();
            for (int person = 0; person < 6; person++) {
                CHECKS.is("sign by person " + person, person + 1, hall.sign(page, person));
                CHECKS.is("hold by person " + person, true, hall.hold(page, person));
            }
        }
        for (int person = 0; person < 6; person++) {
            CHECKS.is("person leaves, being there", false, new PressHall().person(person));
        }
    }

    private static void noPageHasColour() {
        CHECKS.begin("promise 1, no page has colour");
        for (int zone = -1; zone < 3; zone++) {
            PressHall hall = new PressHall();
            CHECKS.is("place on a page with colour", -1, hall.place(hall.advert(0, 1, 1, true, -1, zone)));
        }
    }

    private static void sectionIs0AtFirst() {
        CHECKS.begin("a page has a section, 0 at first");
        PressHall hall = new PressHall();
        for (int page = 0; page < 7; page++) {
            CHECKS.is("place in section 0", 100 * page, hall.place(hall.advert(0, 3, 4, false, 0, -1)));
        }
        for (int zone = 0; zone < 3; zone++) {
            CHECKS.is("place in section 0", 700 + 100 * zone, hall.place(hall.advert(0, 3, 4, false, 0, zone)));
        }
        for (int section = 1; section < 4; section++) {
            PressHall other = new PressHall();
            for (int zone = -1; zone < 3; zone++) {
                CHECKS.is("place in section " + section, -1, other.place(other.advert(0, 1, 1, false, section, zone)));
            }
        }
    }

    // ---- promise 2

    private static void pageFrom0To9() {
        CHECKS.begin("promise 2, page: 0 to 9");
        for (int page = 0; page < 10; page++) {
            PressHall hall = new PressHall();
            hall.page(page, 3, false);
            int zone = page < 7 ? -1 : page - 7;
            CHECKS.is("place on the page of the section", 100 * page,
                    hall.place(hall.advert(0, 3, 4, false, 3, zone)));
            CHECKS.is("no other page has it", -1, hall.place(hall.advert(1, 1, 1, false, 3, page < 7 ? 0 : -1)));
        }
        BUSY.refuseOutside("page", Checks.INDEX, 0, 9, (hall, page) -> page(hall, page, 0, true));
    }

    private static void sectionFrom0To3() {
        CHECKS.begin("promise 2, section: 0 to 3");
        for (int section = 0; section < 4; section++) {
            for (int asked = 0; asked < 4; asked++) {
                PressHall hall = new PressHall();
                for (int page = 0; page < 7; page++) {
                    hall.page(page, section, false);
                }
                CHECKS.is("place", asked == section ? 0 : -1, hall.place(hall.advert(0, 1, 1, false, asked, -1)));
            }
        }
        BUSY.refuseOutside("section", Checks.ARGUMENT, 0, 3, (hall, section) -> page(hall, 7, section, true));
    }

    private static void colourOrNot() {
        CHECKS.begin("promise 2, colour: whether it has colour");
        for (int page = 0; page < 10; page++) {
            PressHall hall = new PressHall();
            int advert = hall.advert(0, 1, 1, true, -1, page < 7 ? -1 : page - 7);
            hall.page(page, 0, true);
            CHECKS.is("place with colour", 100 * page, hall.place(advert));
            hall.takeOff(advert);
            hall.page(page, 0, false);
            CHECKS.is("place without colour", -1, hall.place(advert));
        }
    }

    /** The cells 0 to this one are taken by advertisements, then all but this one are free again. */
    private static PressHall withOneTaken(int page, int cell) {
        PressHall hall = new PressHall();
        hall.page(page, 1, true);
        hall.distance(0, 0);
        for (int i = 0; i <= cell; i++) {
            hall.place(hall.advert(0, 1, 1, false, 1, page < 7 ? -1 : page - 7));
        }
        for (int i = 0; i < cell; i++) {
            hall.takeOff(i);
        }
        return hall;
    }

    private static void notIfACellIsTaken() {
        CHECKS.begin("promise 2, if a cell of it is taken");
        for (int cell = 0; cell < 12; cell++) {
            int page = cell % 10;
            int taken = cell;
            PressHall hall = withOneTaken(page, taken);
            CHECKS.is("cell " + cell + " is taken", 100 + cell, hall.cell(page, cell));
            CHECKS.throwsIt("page " + page, Checks.STATE, () -> page(hall, page, 1, true));
            hall.takeOff(taken);
            CHECKS.is("page, free again", 0, page(hall, page, 2, false));
        }
        Twins lastCell = new Twins(CHECKS, () -> withOneTaken(9, 11));
        lastCell.refuse("page 9", Checks.STATE, hall -> page(hall, 9, 0, false));
        lastCell.refuse("page 9", Checks.STATE, hall -> page(hall, 9, 3, true));
    }

    private static void notIfAStoryOrACorrectionTakesIt() {
        CHECKS.begin("promise 2, if a cell of it is taken, by whatever");
        Twins story = new Twins(CHECKS, () -> {
            PressHall hall = new PressHall();
            hall.lay(hall.story(0, 1, 1));
            return hall;
        });
        story.refuse("page with a story", Checks.STATE, hall -> page(hall, 0, 2, true));
        Twins correction = new Twins(CHECKS, () -> Halls.drawn("0 ... ... ... ..#"));
        correction.refuse("page with a correction", Checks.STATE, hall -> page(hall, 0, 2, true));
        PressHall hall = Halls.drawn("0 ... ... ... ..#");
        CHECKS.is("another page of the plate", 0, page(hall, 1, 2, true));
        hall.clean(0);
        CHECKS.is("page, free again", 0, page(hall, 0, 2, true));
    }

    private static void pageIsFullOrEmpty() {
        CHECKS.begin("promise 2, a page that is full, and one that has been");
        PressHall hall = new PressHall();
        hall.advert(0, 3, 4, false, -1, 2);
        hall.place(0);
        CHECKS.throwsIt("page, full", Checks.STATE, () -> page(hall, 9, 1, false));
        hall.takeOff(0);
        CHECKS.is("page, empty again", 0, page(hall, 9, 1, false));
        CHECKS.is("page, again as it was", 0, page(hall, 9, 1, false));
    }

    private static void exceptionsOfPageInOrder() {
        CHECKS.begin("promise 2, IndexOutOfBoundsException, then IllegalArgumentException, then IllegalStateException");
        CHECKS.throwsIt("page 10, section 4", Checks.INDEX, () -> page(Halls.busy(), 10, 4, true));
        CHECKS.throwsIt("page -1, section -1", Checks.INDEX, () -> page(Halls.busy(), -1, -1, true));
        BUSY.refuse("page 0, taken, section 4", Checks.ARGUMENT, hall -> page(hall, 0, 4, true));
        BUSY.refuse("page 0, taken, section -1", Checks.ARGUMENT, hall -> page(hall, 0, -1, true));
        BUSY.refuse("page 0, taken", Checks.STATE, hall -> page(hall, 0, 1, true));
        FULL.refuse("page 1, full", Checks.STATE, hall -> page(hall, 1, 1, false));
    }

    private static void pageTouchesAndSignsNothing() {
        CHECKS.begin("promise 2, a page without cells that change");
        PressHall hall = new PressHall();
        hall.sign(4, 2);
        hall.hold(4, 3);
        hall.page(4, 1, true);
        CHECKS.is("touched", 0, hall.touched());
        CHECKS.is("sign", 2, hall.sign(4, 0));
        CHECKS.is("hold, let go", false, hall.hold(4, 3));
    }

    // ---- promise 3

    private static void cellOfPage0To9() {
        CHECKS.begin("promise 3, page: 0 to 9");
        for (int page = 0; page < 10; page++) {
            PressHall hall = new PressHall();
            hall.page(page, 1, false);
            hall.place(hall.advert(0, 1, 1, false, 1, page < 7 ? -1 : page - 7));
            for (int asked = 0; asked < 10; asked++) {
                CHECKS.is("cell(" + asked + ", 0)", asked == page ? 100 : 0, hall.cell(asked, 0));
            }
        }
        BUSY.refuseOutside("page", Checks.INDEX, 0, 9, (hall, page) -> hall.cell(page, 0));
    }

    private static void cell0To11() {
        CHECKS.begin("promise 3, cell: 0 to 11");
        for (int cell = 0; cell < 12; cell++) {
            PressHall hall = withOneTaken(6, cell);
            for (int asked = 0; asked < 12; asked++) {
                CHECKS.is("cell(6, " + asked + ")", asked == cell ? 100 + cell : 0, hall.cell(6, asked));
            }
        }
        BUSY.refuseOutside("cell of the first page", Checks.INDEX, 0, 11, (hall, cell) -> hall.cell(0, cell));
        BUSY.refuseOutside("cell of the last page", Checks.INDEX, 0, 11, (hall, cell) -> hall.cell(9, cell));
    }

    private static void cellTellsWhatTakesIt() {
        CHECKS.begin("promise 3, 0 if it is free, 100 + the advertisement, 200 + the story, 300 + that of a correction");
        for (int number = 0; number < 20; number++) {
            PressHall hall = new PressHall();
            for (int i = 0; i < 20; i++) {
                hall.advert(0, 1, 1, false, -1, -1);
                hall.story(0, 1, 1);
            }
            hall.place(number);
            hall.lay(number);
            CHECKS.is("cell of an advertisement", 100 + number, hall.cell(0, 0));
            CHECKS.is("cell of a story", 200 + number, hall.cell(0, 3));
            Halls.closeSigned(hall);
            hall.correct(0, number);
            hall.placeCorrection();
            CHECKS.is("cell of a correction", 300 + number, hall.cell(0, 1));
            CHECKS.is("cell that is free", 0, hall.cell(0, 2));
            hall.takeOff(number);
            hall.lift(number);
            hall.clean(0);
            for (int cell : new int[] {0, 1, 3}) {
                CHECKS.is("cell that is free again", 0, hall.cell(0, cell));
            }
        }
    }

    private static void cellChangesNothing() {
        CHECKS.begin("promise 3, a call that only asks");
        BUSY.keep("cell(0, 0)", 100, hall -> hall.cell(0, 0));
        BUSY.keep("cell(9, 11)", 0, hall -> hall.cell(9, 11));
    }

    // ---- promise 4

    private static void twoPagesLieOnOnePlate() {
        CHECKS.begin("promise 4, the plates 0 to 4, of two pages each");
        for (int page = 0; page < 10; page++) {
            PressHall hall = new PressHall();
            hall.page(page, 1, false);
            int advert = hall.advert(0, 1, 1, false, 1, page < 7 ? -1 : page - 7);
            CHECKS.is("touched by nothing", 0, hall.touched());
            hall.place(advert);
            CHECKS.is("touched by a cell that is taken", 1 << (page / 2), hall.touched());
            Halls.closeSigned(hall);
            CHECKS.is("touched since the last edition", 0, hall.touched());
            hall.takeOff(advert);
            CHECKS.is("touched by a cell that is free again", 1 << (page / 2), hall.touched());
        }
    }

    private static void allPlatesTouched() {
        CHECKS.begin("promise 4, all plates, and none");
        PressHall hall = new PressHall();
        CHECKS.is("touched", 0, hall.touched());
        for (int page = 0; page < 7; page++) {
            hall.place(hall.advert(0, 3, 4, false, -1, -1));
        }
        CHECKS.is("touched, the plates 0 to 3", 15, hall.touched());
        hall.place(hall.advert(0, 1, 1, false, -1, 0));
        CHECKS.is("touched by the page 7, on the plate of the page 6", 15, hall.touched());
        hall.place(hall.advert(0, 1, 1, false, -1, 1));
        CHECKS.is("touched, all", 31, hall.touched());
        Halls.closeSigned(hall);
        CHECKS.is("touched, none", 0, hall.touched());
        hall.place(hall.advert(0, 1, 1, false, -1, 2));
        CHECKS.is("touched, the plate 4", 16, hall.touched());
        hall.takeOff(0);
        CHECKS.is("touched, the plates 4 and 0", 17, hall.touched());
    }

    private static void touchedChangesNothing() {
        CHECKS.begin("promise 4, a call that only asks");
        int due = Halls.busy().touched();
        CHECKS.isTrue("some plates are touched, some not: " + due, due > 0 && due < 31);
        BUSY.keep("touched", due, PressHall::touched);
    }

    public static void main(String[] args) {
        usedForAtMost512Calls();
        roomIsFreeAgainFor512Calls();
        correctionsFindRoomFor512Calls();
        constants();
        anEmptyPaper();
        nothingIsThereAtFirst();
        theFirstNumbers();
        allPeopleAreThere();
        noPageHasColour();
        sectionIs0AtFirst();
        pageFrom0To9();
        sectionFrom0To3();
        colourOrNot();
        notIfACellIsTaken();
        notIfAStoryOrACorrectionTakesIt();
        pageIsFullOrEmpty();
        exceptionsOfPageInOrder();
        pageTouchesAndSignsNothing();
        cellOfPage0To9();
        cell0To11();
        cellTellsWhatTakesIt();
        cellChangesNothing();
        twoPagesLieOnOnePlate();
        allPlatesTouched();
        touchedChangesNothing();
        CHECKS.end();
    }
}
