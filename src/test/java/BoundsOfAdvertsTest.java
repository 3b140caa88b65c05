/** The sentences of the document that name a boundary: advertisements (promises 5 to 9). */
public final class BoundsOfAdvertsTest {
    private static final Checks CHECKS = new Checks();
    private static final Twins BUSY = new Twins(CHECKS, Halls::busy);
    private static final Twins FULL = new Twins(CHECKS, Halls::full);

    private BoundsOfAdvertsTest() {
    }

    /** Takes an advertisement of one cell in, for all copies or a zone, and places it. */
    private static int placeSmall(PressHall hall, int category, int zone) {
        return hall.place(hall.advert(category, 1, 1, false, -1, zone));
    }

    private static int placeSized(PressHall hall, int width, int height) {
        return hall.place(hall.advert(0, width, height, false, -1, -1));
    }

    // ---- promise 5

    private static void categoryFrom0To3() {
        CHECKS.begin("promise 5, category: 0 to 3");
        PressHall hall = new PressHall();
        for (int category = 0; category < 4; category++) {
            CHECKS.is("distance before, 1 at first", 1, hall.distance(category, 2 + category));
        }
        for (int category = 0; category < 4; category++) {
            CHECKS.is("distance before", 2 + category, hall.distance(category, 0));
        }
        BUSY.refuseOutside("category", Checks.ARGUMENT, 0, 3, (other, category) -> other.distance(category, 4));
    }

    private static void distanceFrom0To9() {
        CHECKS.begin("promise 5, distance: 0 to 9");
        for (int category = 0; category < 4; category++) {
            PressHall hall = new PressHall();
            int before = 1;
            for (int distance = 0; distance < 10; distance++) {
                CHECKS.is("distance before", before, hall.distance(category, distance));
                before = distance;
            }
            CHECKS.is("distance before", 9, hall.distance(category, 9));
        }
        for (int i = 0; i < 4; i++) {
            int category = i;
            BUSY.refuseOutside("distance", Checks.ARGUMENT, 0, 9,
                    (hall, distance) -> hall.distance(category, distance));
        }
    }

    private static void notOnTheSamePageAtFirst() {
        CHECKS.begin("promise 5, 1 at first: not on the same page");
        for (int category = 0; category < 4; category++) {
            PressHall hall = new PressHall();
            for (int page = 0; page < 7; page++) {
                CHECKS.is("place", 100 * page, placeSmall(hall, category, -1));
            }
            CHECKS.is("place, one on each page", -1, placeSmall(hall, category, -1));
            for (int zone = 0; zone < 3; zone++) {
                CHECKS.is("place for a zone", 700 + 100 * zone, placeSmall(hall, category, zone));
                CHECKS.is("place for a zone again", -1, placeSmall(hall, category, zone));
            }
        }
    }

    private static void onTheSamePageWithDistance0() {
        CHECKS.begin("promise 5, distance 0: on the same page too");
        PressHall hall = new PressHall();
        hall.distance(1, 0);
        for (int cell = 0; cell < 12; cell++) {
            CHECKS.is("place", cell, placeSmall(hall, 1, -1));
        }
        CHECKS.is("place, the page being full", 100, placeSmall(hall, 1, -1));
        CHECKS.is("place for a zone", 700, placeSmall(hall, 1, 0));
        CHECKS.is("place for a zone again", 701, placeSmall(hall, 1, 0));
    }

    private static void justAsFarAsTheDistance() {
        CHECKS.begin("advertisements, less far apart than the distance: pages ahead");
        for (int distance = 1; distance < 10; distance++) {
            PressHall hall = new PressHall();
            hall.distance(3, distance);
            CHECKS.is("place", 0, placeSmall(hall, 3, -1));
            CHECKS.is("place at distance " + distance, distance < 7 ? 100 * distance : -1, placeSmall(hall, 3, -1));
        }
    }

    private static void justAsFarBackAsTheDistance() {
        CHECKS.begin("advertisements, less far apart than the distance: pages behind");
        for (int page = 1; page < 7; page++) {
            for (int distance = 1; distance < 10; distance++) {
                PressHall hall = new PressHall();
                hall.page(page, 1, false);
                hall.place(hall.advert(0, 1, 1, false, 1, -1));
                hall.distance(0, distance);
                int due = distance <= page ? 0 : page + distance < 7 ? page + distance : -1;
                CHECKS.is("place at distance " + distance + " of page " + page, due < 0 ? -1 : 100 * due,
                        placeSmall(hall, 0, -1));
            }
        }
    }

    private static void pagesOfZonesAreApartByTheirNumbersToo() {
        CHECKS.begin("advertisements, pages are apart by the difference of their numbers: those of zones too");
        for (int zone = 0; zone < 3; zone++) {
            for (int distance = 0; distance < 10; distance++) {
                PressHall hall = new PressHall();
                placeSmall(hall, 2, -1);
                hall.distance(2, distance);
                CHECKS.is("place for zone " + zone + " at distance " + distance,
                        7 + zone >= distance ? 700 + 100 * zone : -1, placeSmall(hall, 2, zone));
                PressHall other = new PressHall();
                placeSmall(other, 2, zone);
                for (int page = 0; page < 6; page++) {
                    other.place(other.advert(page % 2, 3, 4, false, -1, -1));
                }
                other.distance(2, distance);
                CHECKS.is("place on page 6 at distance " + distance, 7 + zone - 6 >= distance ? 600 : -1,
                        placeSmall(other, 2, -1));
            }
        }
    }

    private static void pagesOfDifferentZonesAreApartBy10() {
        CHECKS.begin("advertisements, pages of different zones are as far apart as can be: by 10");
        for (int zone = 0; zone < 3; zone++) {
            for (int other = 0; other < 3; other++) {
                PressHall hall = new PressHall();
                hall.distance(0, 9);
                CHECKS.is("place", 700 + 100 * zone, placeSmall(hall, 0, zone));
                CHECKS.is("place for zone " + other, other == zone ? -1 : 700 + 100 * other,
                        placeSmall(hall, 0, other));
            }
        }
    }

    private static void onlyThoseOfItsCategoryThatLieOnAPage() {
        CHECKS.begin("advertisements, no advertisement of its category lies on a page that is less far apart");
        PressHall hall = new PressHall();
        for (int category = 0; category < 4; category++) {
            hall.distance(category, 9);
            hall.advert(category, 1, 1, false, -1, -1);
        }
        for (int category = 0; category < 4; category++) {
            CHECKS.is("place, of a category of its own", category, hall.place(category));
        }
        int second = hall.advert(3, 1, 1, false, -1, -1);
        CHECKS.is("place, one of its category lies there", -1, hall.place(second));
        hall.takeOff(3);
        CHECKS.is("place, none lies there any more", 3, hall.place(second));
        CHECKS.is("place, itself not counted, but the other", -1, hall.place(3));
    }

    private static void distanceMovesNothing() {
        CHECKS.begin("promise 5, a distance for what is placed");
        PressHall hall = new PressHall();
        placeSmall(hall, 0, -1);
        placeSmall(hall, 0, -1);
        hall.distance(0, 9);
        CHECKS.is("cell", 100, hall.cell(0, 0));
        CHECKS.is("cell", 101, hall.cell(1, 0));
        CHECKS.is("takeOff", 100, hall.takeOff(1));
        CHECKS.is("place by the new distance", -1, hall.place(1));
    }

    // ---- promise 6

    private static void argumentsOfAdvert() {
        CHECKS.begin("promise 6, category, width, height, section, zone out of range");
        BUSY.refuseOutside("category", Checks.ARGUMENT, 0, 3, (hall, x) -> hall.advert(x, 1, 1, false, -1, -1));
        BUSY.refuseOutside("width", Checks.ARGUMENT, 1, 3, (hall, x) -> hall.advert(0, x, 1, false, -1, -1));
        BUSY.refuseOutside("height", Checks.ARGUMENT, 1, 4, (hall, x) -> hall.advert(0, 1, x, false, -1, -1));
        BUSY.refuseOutside("section", Checks.ARGUMENT, -1, 3, (hall, x) -> hall.advert(0, 1, 1, false, x, -1));
        BUSY.refuseOutside("zone", Checks.ARGUMENT, -1, 2, (hall, x) -> hall.advert(0, 1, 1, false, -1, x));
    }

    private static void sizesOfAdvert() {
        CHECKS.begin("promise 6, width: 1 to 3, height: 1 to 4");
        for (int width = 1; width < 4; width++) {
            for (int height = 1; height < 5; height++) {
                PressHall hall = new PressHall();
                CHECKS.is("place", 0, placeSized(hall, width, height));
                for (int cell = 0; cell < 12; cell++) {
                    boolean inside = cell % 3 < width && cell / 3 < height;
                    CHECKS.is("cell " + cell + " of " + width + " by " + height, inside ? 100 : 0, hall.cell(0, cell));
                }
            }
        }
    }

    private static void categoriesSectionsAndZonesOfAdvert() {
        CHECKS.begin("promise 6, category: 0 to 3, section: 0 to 3 or any, zone: 0 to 2 or all copies");
        for (int category = 0; category < 4; category++) {
            PressHall hall = new PressHall();
            hall.distance(category, 0);
            placeSmall(hall, category, -1);
            CHECKS.is("place in its category", 1, placeSmall(hall, category, -1));
        }
        for (int section = 0; section < 4; section++) {
            PressHall hall = new PressHall();
            for (int page = 0; page < 4; page++) {
                hall.page(page, page, false);
            }
            CHECKS.is("place in its section", 100 * section, hall.place(hall.advert(0, 1, 1, false, section, -1)));
            CHECKS.is("place in any section", section == 0 ? 100 : 0, placeSmall(hall, 0, -1));
        }
        for (int zone = 0; zone < 3; zone++) {
            CHECKS.is("place in its zone", 700 + 100 * zone, placeSmall(new PressHall(), 0, zone));
        }
    }

    private static void twentyAdverts() {
        CHECKS.begin("promise 6, if there are 20");
        PressHall hall = new PressHall();
        for (int advert = 0; advert < 20; advert++) {
            CHECKS.is("advert", advert, hall.advert(advert % 4, 1, 1, false, -1, -1));
        }
        CHECKS.throwsIt("advert, 20 are there", Checks.STATE, () -> hall.advert(0, 1, 1, false, -1, -1));
        CHECKS.throwsIt("advert, 20 are there", Checks.STATE, () -> hall.advert(0, 1, 1, false, -1, -1));
        CHECKS.is("place(19)", 0, hall.place(19));
        FULL.refuse("advert, 20 are there", Checks.STATE, other -> other.advert(3, 3, 4, true, 3, 2));
    }

    private static void exceptionsOfAdvertInOrder() {
        CHECKS.begin("promise 6, IllegalArgumentException before IllegalStateException, 20 being there");
        FULL.refuse("category 4", Checks.ARGUMENT, hall -> hall.advert(4, 1, 1, false, -1, -1));
        FULL.refuse("width 0", Checks.ARGUMENT, hall -> hall.advert(0, 0, 1, false, -1, -1));
        FULL.refuse("height 5", Checks.ARGUMENT, hall -> hall.advert(0, 1, 5, false, -1, -1));
        FULL.refuse("section 4", Checks.ARGUMENT, hall -> hall.advert(0, 1, 1, false, 4, -1));
        FULL.refuse("the zone that it is for", Checks.ARGUMENT, hall -> hall.advert(0, 1, 1, false, -1, 3));
    }

    // ---- promise 7

    private static void placeOfOneThatIsThere() {
        CHECKS.begin("promise 7, if there is no such advertisement");
        BUSY.refuseOutside("place", Checks.INDEX, 0, 3, PressHall::place);
        FULL.refuseOutside("place", Checks.INDEX, 0, 19, PressHall::place);
    }

    private static void placeOfOneThatIsPlaced() {
        CHECKS.begin("promise 7, if it is placed");
        for (int i = 0; i < 3; i++) {
            int advert = i;
            BUSY.refuse("place(" + i + ")", Checks.STATE, hall -> hall.place(advert));
        }
        PressHall hall = Halls.busy();
        hall.takeOff(0);
        hall.place(0);
        CHECKS.throwsIt("place, placed again", Checks.STATE, () -> hall.place(0));
    }

    private static void placeWithoutAPlace() {
        CHECKS.begin("promise 7, -1 if there is no place, and then nothing happens");
        Twins fullPages = new Twins(CHECKS, () -> {
            PressHall hall = new PressHall();
            for (int page = 0; page < 7; page++) {
                placeSized(hall, 3, 4);
            }
            hall.advert(1, 1, 1, false, -1, -1);
            Halls.closeSigned(hall);
            return hall;
        });
        fullPages.keep("place, no page having a free cell", -1, hall -> hall.place(7));
        Twins oneShort = new Twins(CHECKS, () -> {
            PressHall hall = new PressHall();
            for (int page = 0; page < 7; page++) {
                hall.place(hall.advert(page / 6, page < 6 ? 3 : 1, page < 6 ? 4 : 1, false, -1, -1));
            }
            hall.advert(2, 3, 4, false, -1, -1);
            Halls.closeSigned(hall);
            return hall;
        });
        oneShort.keep("place, a cell being taken", -1, hall -> hall.place(7));
        BUSY.keep("place, the page with colour being too near", -1, hall -> {
            hall.distance(0, 9);
            int place = hall.place(3);
            hall.distance(0, 1);
            return place;
        });
        PressHall hall = Halls.busy();
        hall.distance(0, 9);
        CHECKS.is("place", -1, hall.place(3));
        CHECKS.throwsIt("takeOff, there being no place", Checks.STATE, () -> hall.takeOff(3));
        hall.distance(0, 1);
        CHECKS.isTrue("place, there being a place", hall.place(3) >= 0);
    }

    private static void placeOnlyIfAllItsCellsAreFree() {
        CHECKS.begin("promise 7, a rectangle of free cells: each of its cells counts");
        for (int width = 1; width < 4; width++) {
            for (int height = 1; height < 5; height++) {
                for (int taken = 0; taken < 12; taken++) {
                    PressHall hall = withOneTaken(taken);
                    CHECKS.is("place of " + width + " by " + height + " beside the cell " + taken,
                            firstBeside(taken, width, height), placeSized(hall, width, height));
                }
            }
        }
    }

    /** Page 0 with one cell that is taken, by an advertisement of another category. */
    private static PressHall withOneTaken(int cell) {
        PressHall hall = new PressHall();
        hall.distance(1, 0);
        for (int i = 0; i <= cell; i++) {
            placeSmall(hall, 1, -1);
        }
        for (int i = 0; i < cell; i++) {
            hall.takeOff(i);
        }
        return hall;
    }

    /** The lowest first cell of a rectangle on page 0 without the cell that is taken; 100 if there is none. */
    private static int firstBeside(int taken, int width, int height) {
        for (int first = 0; first < 12; first++) {
            int column = first % 3;
            int row = first / 3;
            boolean inPage = column + width <= 3 && row + height <= 4;
            boolean hasIt = taken % 3 >= column && taken % 3 < column + width && taken / 3 >= row
                    && taken / 3 < row + height;
            if (inPage && !hasIt) {
                return first;
            }
        }
        return 100;
    }

    private static void placeInWhatIsLeft() {
        CHECKS.begin("promise 7, a page with few free cells");
        String[][] cases = {
            // The page, width and height of the advertisement, its place; 100 is the next page.
            {"0 ### ### ### ##.", "1", "1", "11"},
            {"0 ### ### ### ##.", "2", "1", "100"},
            {"0 ### ### ### ##.", "1", "2", "100"},
            {"0 .## ### ### ###", "1", "1", "0"},
            {"0 ### ### ### ###", "1", "1", "100"},
            {"0 ##. .## ### ###", "2", "1", "100"},
            {"0 ##. ##. ##. ##.", "1", "4", "2"},
            {"0 ### ##. ##. ##.", "1", "4", "100"},
            {"0 ### ##. ##. ##.", "1", "3", "5"},
            {"0 ##. ##. ### ##.", "1", "3", "100"},
            {"0 ### ### ### ...", "3", "1", "9"},
            {"0 ### ### ### ...", "3", "2", "100"},
            {"0 ### ### ##. ...", "3", "1", "9"},
            {"0 ### ### .## #..", "2", "1", "10"},
            {"0 ### #.. #.. ###", "2", "2", "4"},
            {"0 ### #.. ##. ###", "2", "2", "100"},
            {"0 ### ... ... ...", "3", "3", "3"},
            {"0 ### ... ... ...", "3", "4", "100"},
            {"0 ..# ..# ..# ..#", "2", "4", "0"},
            {"0 ..# ..# ..# ..#", "3", "1", "100"},
            {"0 ... ... ... ...", "3", "4", "0"},
        };
        for (String[] each : cases) {
            PressHall hall = Halls.drawn(each[0]);
            CHECKS.isTrue(each[0] + " is drawn", Halls.isDrawn(hall, each[0]));
            CHECKS.is("place of " + each[1] + " by " + each[2] + " in " + each[0], Integer.parseInt(each[3]),
                    placeSized(hall, Integer.parseInt(each[1]), Integer.parseInt(each[2])));
        }
    }

    private static void placeOnTheLowestPageThatHasRoom() {
        CHECKS.begin("promise 7, the lowest page on which it fits and has such a rectangle");
        for (int free = 0; free < 7; free++) {
            String[] pages = new String[7];
            for (int page = 0; page < 7; page++) {
                pages[page] = page < free ? "0 ### ### ### ###" : "0 ### ### ### #.#";
            }
            CHECKS.is("place with room from page " + free + " on", 100 * free + 10,
                    placeSized(Halls.drawn(pages), 1, 1));
        }
        CHECKS.is("place of what needs more room", 210, placeSized(
                Halls.drawn("0 ### ### ### ###", "0 ### ### ### ##.", "0 ### ### ### #..", "0 ... ... ... ..."), 2, 1));
    }

    private static void placeOnPagesOfAllCopiesOrTheZone() {
        CHECKS.begin("promise 7, for all copies on the pages 0 to 6, for a zone on the last page of that zone");
        PressHall hall = new PressHall();
        hall.distance(0, 0);
        for (int page = 0; page < 7; page++) {
            CHECKS.is("place for all copies", 100 * page, placeSized(hall, 3, 4));
        }
        CHECKS.is("place for all copies, their pages being full", -1, placeSized(hall, 1, 1));
        for (int zone = 0; zone < 3; zone++) {
            CHECKS.is("place for zone " + zone, 700 + 100 * zone, hall.place(hall.advert(0, 3, 4, false, -1, zone)));
            CHECKS.is("place for zone " + zone + ", its page being full", -1, placeSmall(hall, 0, zone));
        }
    }

    private static void placeByColour() {
        CHECKS.begin("promise 7, with colour, if it needs that");
        for (int page = 0; page < 10; page++) {
            PressHall hall = new PressHall();
            int zone = page < 7 ? -1 : page - 7;
            int needs = hall.advert(0, 1, 1, true, -1, zone);
            int doesNot = hall.advert(1, 1, 1, false, -1, zone);
            CHECKS.is("place without a page with colour", -1, hall.place(needs));
            hall.page(page, 0, true);
            CHECKS.is("place with colour", 100 * page, hall.place(needs));
            CHECKS.is("place of one that needs none", page < 7 ? (page == 0 ? 1 : 0) : 100 * page + 1,
                    hall.place(doesNot));
        }
    }

    // ---- promise 8

    private static void takeOffOfOneThatIsThere() {
        CHECKS.begin("promise 8, if there is no such advertisement");
        BUSY.refuseOutside("takeOff", Checks.INDEX, 0, 3, PressHall::takeOff);
        FULL.refuseOutside("takeOff", Checks.INDEX, 0, 19, PressHall::takeOff);
    }

    private static void takeOffOfOneThatIsNotPlaced() {
        CHECKS.begin("promise 8, if it is not placed");
        BUSY.refuse("takeOff, never placed", Checks.STATE, hall -> hall.takeOff(3));
        Twins takenOff = new Twins(CHECKS, () -> {
            PressHall hall = Halls.busy();
            hall.takeOff(2);
            return hall;
        });
        takenOff.refuse("takeOff, taken off", Checks.STATE, hall -> hall.takeOff(2));
    }

    private static void takeOffAnswersWhereItWas() {
        CHECKS.begin("promise 8, 100 * the page + the first cell where it was");
        for (int cell = 0; cell < 12; cell++) {
            PressHall hall = withOneTaken(cell);
            CHECKS.is("takeOff", cell, hall.takeOff(cell));
            CHECKS.is("cell", 0, hall.cell(0, cell));
        }
        for (int zone = 0; zone < 3; zone++) {
            PressHall hall = new PressHall();
            hall.distance(0, 0);
            placeSmall(hall, 0, zone);
            hall.place(hall.advert(0, 3, 3, false, -1, zone));
            CHECKS.is("takeOff, of 3 by 3", 703 + 100 * zone, hall.takeOff(1));
            for (int cell = 0; cell < 12; cell++) {
                CHECKS.is("cell", cell == 0 ? 100 : 0, hall.cell(7 + zone, cell));
            }
        }
    }

    private static void takeOffOfAFullPage() {
        CHECKS.begin("promise 8, a page that was full");
        PressHall hall = new PressHall();
        placeSized(hall, 3, 4);
        CHECKS.is("takeOff", 0, hall.takeOff(0));
        CHECKS.is("isReady, empty", true, hall.isReady(0));
        CHECKS.is("place again", 0, hall.place(0));
    }

    // ---- promise 9

    private static void advertsInZone0To2() {
        CHECKS.begin("promise 9, zone: 0 to 2");
        for (int zone = 0; zone < 3; zone++) {
            PressHall hall = new PressHall();
            placeSmall(hall, 0, zone);
            for (int asked = 0; asked < 3; asked++) {
                CHECKS.is("advertsIn(" + asked + ")", asked == zone ? 1 : 0, hall.advertsIn(asked));
            }
        }
        BUSY.refuseOutside("advertsIn", Checks.INDEX, 0, 2, PressHall::advertsIn);
    }

    private static void advertsOfPages0To6AreInEachCopy() {
        CHECKS.begin("promise 9, the pages 0 to 6 are in each copy");
        PressHall hall = new PressHall();
        for (int page = 0; page < 7; page++) {
            CHECKS.is("place", 100 * page, placeSized(hall, 1, 1));
            for (int zone = 0; zone < 3; zone++) {
                CHECKS.is("advertsIn", page + 1, hall.advertsIn(zone));
            }
        }
        hall.takeOff(6);
        CHECKS.is("advertsIn, one taken off", 6, hall.advertsIn(2));
    }

    private static void advertsInOfNoneAndOfAll() {
        CHECKS.begin("promise 9, none, and all 20");
        PressHall hall = new PressHall();
        hall.distance(0, 0);
        for (int i = 0; i < 20; i++) {
            hall.advert(0, 1, 1, false, -1, i < 19 ? -1 : 1);
        }
        CHECKS.is("advertsIn, none placed", 0, hall.advertsIn(1));
        for (int i = 0; i < 20; i++) {
            hall.place(i);
        }
        CHECKS.is("advertsIn(0)", 19, hall.advertsIn(0));
        CHECKS.is("advertsIn(1)", 20, hall.advertsIn(1));
        CHECKS.is("advertsIn(2)", 19, hall.advertsIn(2));
        BUSY.keep("advertsIn(1), a call that only asks", 3, other -> other.advertsIn(1));
    }

    public static void main(String[] args) {
        categoryFrom0To3();
        distanceFrom0To9();
        notOnTheSamePageAtFirst();
        onTheSamePageWithDistance0();
        justAsFarAsTheDistance();
        justAsFarBackAsTheDistance();
        pagesOfZonesAreApartByTheirNumbersToo();
        pagesOfDifferentZonesAreApartBy10();
        onlyThoseOfItsCategoryThatLieOnAPage();
        distanceMovesNothing();
        argumentsOfAdvert();
        sizesOfAdvert();
        categoriesSectionsAndZonesOfAdvert();
        twentyAdverts();
        exceptionsOfAdvertInOrder();
        placeOfOneThatIsThere();
        placeOfOneThatIsPlaced();
        placeWithoutAPlace();
        placeOnlyIfAllItsCellsAreFree();
        placeInWhatIsLeft();
        placeOnTheLowestPageThatHasRoom();
        placeOnPagesOfAllCopiesOrTheZone();
        placeByColour();
        takeOffOfOneThatIsThere();
        takeOffOfOneThatIsNotPlaced();
        takeOffAnswersWhereItWas();
        takeOffOfAFullPage();
        advertsInZone0To2();
        advertsOfPages0To6AreInEachCopy();
        advertsInOfNoneAndOfAll();
        CHECKS.end();
    }
}
