/** The sentences of the document that name a boundary: late changes (promise 13). */
public final class BoundsOfChangesTest {
    private static final Checks CHECKS = new Checks();
    private static final Twins BUSY = new Twins(CHECKS, Halls::busy);
    private static final Twins FULL = new Twins(CHECKS, Halls::full);
    private static final String SHUT = " ### ### ### ###";
    private static final String ONE = " .## ### ### ###";
    private static final String TWO = " .## .## ### ###";
    private static final String THREE = " .## .## .## ###";

    private BoundsOfChangesTest() {
    }

    /** A hall with these pages, untouched, on which a first story, of the number 4, is laid out; 5 is to come. */
    private static PressHall withOld(String pages, int section, int lines) {
        PressHall hall = Halls.drawn(pages.split(","));
        CHECKS.is("story", 4, hall.story(section, lines, 1));
        CHECKS.isTrue("the old story is laid out on " + pages, hall.lay(4) > 0);
        Halls.closeSigned(hall);
        CHECKS.is("touched", 0, hall.touched());
        return hall;
    }

    /** Touches plates, told as a set: 0 to 2 by their odd pages, that hold corrections, 3 by the page 7. */
    private static void touch(PressHall hall, int plates) {
        for (int plate = 0; plate < 3; plate++) {
            if ((plates >> plate) % 2 == 1) {
                hall.clean(2 * plate + 1);
            }
        }
        if (plates >= 8) {
            hall.place(hall.advert(0, 1, 1, false, -1, 0));
        }
        CHECKS.is("touched", plates, hall.touched());
    }

    /** The change answers so, and the fresh story lies there. */
    private static void change(PressHall hall, int due, int section, int lines, int least, int part0, int part1) {
        int fresh = hall.story(section, lines, least);
        CHECKS.is("change", due, hall.change(4, fresh));
        CHECKS.is("part 0", part0, hall.part(fresh, 0));
        CHECKS.is("part 1", part1, hall.part(fresh, 1));
        if (due >= 0) {
            CHECKS.is("part 0 of the old one, that goes", -1, hall.part(4, 0));
            CHECKS.is("part 1 of the old one, that goes", -1, hall.part(4, 1));
        }
    }

    private static void theFewestPlatesOnOnePage() {
        CHECKS.begin("late changes, by which the fewest plates are touched that were not; of several the first one");
        for (int plates = 0; plates < 16; plates++) {
            PressHall hall = withOld("1" + TWO + ",3" + SHUT + ",1" + TWO + ",3" + SHUT + ",1" + TWO + ",3" + SHUT
                    + ",2" + ONE, 2, 5);
            CHECKS.is("part of the old one", 60001, hall.part(4, 0));
            touch(hall, plates);
            int plate = plates % 8 == 0 ? 0 : Integer.numberOfTrailingZeros(plates);
            int anew = (plates % 8 == 0 ? 1 : 0) + (plates < 8 ? 1 : 0);
            change(hall, anew, 1, 55, 2, 20000 * plate + 2, -1);
            CHECKS.is("touched", plates | 8 | 1 << plate, hall.touched());
        }
    }

    private static void byItAndByWhatGoes() {
        CHECKS.begin("late changes, by it and by what goes");
        String pages = "1" + TWO + ",3" + SHUT + ",1" + TWO;
        for (int plates = 0; plates < 4; plates++) {
            PressHall hall = Halls.drawn(pages.split(","));
            hall.story(1, 55, 2);
            hall.lay(hall.story(1, 55, 2));
            hall.lay(4);
            hall.lift(5);
            CHECKS.is("part of the old one", 20002, hall.part(4, 0));
            Halls.closeSigned(hall);
            touch(hall, plates % 2);
            if (plates >= 2) {
                hall.page(3, 2, false);
                hall.place(hall.advert(0, 1, 1, false, 2, -1));
            }
            CHECKS.is("touched", plates, hall.touched());
            int fresh = hall.story(1, 55, 2);
            // On page 2 it touches the plate of what goes alone; so page 0 is as good if its plate is touched.
            CHECKS.is("change", plates < 2 ? 1 : 0, hall.change(4, fresh));
            CHECKS.is("part", plates % 2 == 1 ? 2 : 20002, hall.part(fresh, 0));
        }
    }

    /** Page 0, 2, 4 and 6 have a cell for the story 4, that lies on one of them, and for a fresh one. */
    private static PressHall withOldOn(int page) {
        PressHall hall = Halls.drawn(("1" + ONE + ",3" + SHUT + ",1" + ONE + ",3" + SHUT + ",1" + ONE + ",3" + SHUT
                + ",1" + ONE).split(","));
        int before = page / 2;
        hall.story(1, 5, 1);
        for (int i = 0; i < before; i++) {
            hall.lay(hall.story(1, 5, 1));
        }
        hall.lay(4);
        for (int i = 0; i < before; i++) {
            hall.lift(5 + i);
        }
        CHECKS.is("part of the old one", 10000 * page + 1, hall.part(4, 0));
        Halls.closeSigned(hall);
        return hall;
    }

    private static void whatGoesFromEachPlate() {
        CHECKS.begin("late changes, the fewest plates, by it and by what goes, from each plate");
        for (int page = 0; page < 7; page += 2) {
            for (int plates = 0; plates < 16; plates++) {
                PressHall hall = withOldOn(page);
                touch(hall, plates);
                int best = 0;
                int fewest = 9;
                for (int plate = 0; plate < 4; plate++) {
                    int anew = Integer.bitCount((1 << page / 2 | 1 << plate) & ~plates);
                    if (anew < fewest) {
                        fewest = anew;
                        best = plate;
                    }
                }
                change(hall, fewest, 1, 5, 1, 20000 * best + 1, -1);
            }
        }
    }

    private static void withTheCellsOfThatOneFree() {
        CHECKS.begin("late changes, laid out with the cells of that one free");
        change(withOld("1" + TWO, 1, 55), 1, 1, 91, 2, 2, -1);
        change(withOld("1" + TWO, 1, 55), -1, 1, 92, 2, -1, -1);
        change(withOld("1" + TWO, 1, 55), 1, 1, 92, 1, 2, -1);
        // One cell of the old one and the next one, that is free.
        change(withOld("1" + TWO, 1, 5), 1, 1, 55, 2, 2, -1);
        change(withOld("1" + TWO, 1, 5), -1, 1, 555, 3, -1, -1);
        // Both parts of the old one are free.
        change(withOld("1" + ONE + ",0" + ONE, 1, 55), 1, 1, 54, 2, 1, 10001);
        change(withOld("1" + ONE + ",0" + TWO, 1, 55), 1, 1, 555, 3, 1, 10002);
        change(withOld("1" + ONE + ",0" + ONE, 1, 55), -1, 1, 555, 3, -1, -1);
    }

    private static void theSectionsStay() {
        CHECKS.begin("late changes, it is laid out as told: on a page of its section, in the order of columns");
        for (int section = 0; section < 4; section++) {
            change(withOld("1" + ONE, 1, 5), section == 1 || section == 3 ? 1 : -1, section, 5, 1,
                    section == 1 ? 1 : section == 3 ? 10001 : -1, -1);
        }
        change(withOld("1 ..# ### ### ###", 1, 5), -1, 1, 55, 2, -1, -1);
        change(withOld("1 #.# ### ### .##", 1, 5), 1, 1, 55, 2, 902, -1);
    }

    private static void onlyTheFirstNForWhichThereIsAWay() {
        CHECKS.begin("late changes, of all ways for the first n for which there is one");
        // With one paragraph it could have the cells of what goes, and touch one plate fewer.
        change(withOld("1" + ONE + ",3" + SHUT + ",1" + TWO, 1, 5), 2, 1, 55, 1, 20002, -1);
        change(withOld("1" + ONE + ",3" + SHUT + ",1" + ONE, 1, 5), 1, 1, 55, 1, 1, -1);
        change(withOld("1" + ONE + ",3" + SHUT + ",0" + ONE, 1, 5), 2, 1, 55, 1, 1, 20001);
        change(withOld("1" + ONE + ",3" + SHUT + ",1" + ONE, 1, 5), -1, 1, 55, 2, -1, -1);
    }

    private static void onePageAheadOfTwo() {
        CHECKS.begin("late changes, those on one page; if there are none, those in two parts");
        change(withOld("1" + ONE + ",0" + ONE + ",1" + TWO, 1, 5), 2, 1, 55, 2, 20002, -1);
        change(withOld("1" + ONE + ",0" + ONE + ",1" + ONE, 1, 5), 1, 1, 55, 2, 1, 10001);
    }

    private static void fewerPlatesAheadOfAGreaterFirstPart() {
        CHECKS.begin("late changes, in two parts: fewer plates go ahead of the greatest m, that of the lowest page");
        String pages = "1" + TWO + ",3" + SHUT + ",3" + SHUT + ",3" + SHUT + ",1" + ONE + ",0" + TWO + ",2" + ONE;
        change(withOld(pages, 2, 5), 2, 1, 555, 3, 40001, 50002);
        PressHall touched = withOld(pages, 2, 5);
        touch(touched, 1);
        // As few are touched with two paragraphs on page 0: that is the first way.
        change(touched, 2, 1, 555, 3, 2, 50001);
    }

    private static void theOrderOfWaysInTwoParts() {
        CHECKS.begin("late changes, in their order: greatest m, lowest first page, lowest second page");
        String pages = "1" + ONE + ",2" + ONE + ",1" + ONE + ",0" + ONE + ",3" + SHUT + ",0" + ONE + ",0" + ONE;
        int[] seconds = {3, 5, 6, 5};
        for (int plates = 0; plates < 4; plates++) {
            PressHall hall = withOld(pages, 2, 5);
            CHECKS.is("part of the old one", 10001, hall.part(4, 0));
            if (plates % 2 == 1) {
                hall.clean(4);
            }
            if (plates >= 2) {
                hall.place(hall.advert(0, 1, 1, false, -1, 0));
            }
            CHECKS.is("touched", 4 * plates, hall.touched());
            change(hall, plates == 0 ? 2 : 1, 1, 55, 2, 1, 10000 * seconds[plates] + 1);
        }
        // As many plates with each way: the greatest first part, on the lowest page that has room for it.
        change(withOld("1" + ONE + ",1" + TWO + ",1" + TWO + ",0" + THREE + ",2" + ONE, 2, 5), 2, 1, 5555, 4,
                20002, 30002);
        change(withOld("1" + TWO + ",0" + TWO + ",1" + THREE + ",0" + TWO + ",2" + ONE, 2, 5), 2, 1, 5555, 4,
                20003, 30001);
    }

    private static void upTo4Plates() {
        CHECKS.begin("promise 13, how many plates are touched by that that were not: 0 to 4");
        String pages = "1" + ONE + ",3" + SHUT + ",0" + ONE + ",3" + SHUT + ",2" + ONE + ",3" + SHUT + ",0" + ONE;
        for (int plates = 0; plates < 16; plates++) {
            PressHall hall = withOld(pages, 1, 55);
            CHECKS.is("part 0 of the old one", 1, hall.part(4, 0));
            CHECKS.is("part 1 of the old one", 20001, hall.part(4, 1));
            touch(hall, plates);
            change(hall, 4 - Integer.bitCount(plates), 2, 55, 2, 40001, 60001);
            CHECKS.is("touched", 15, hall.touched());
        }
    }

    private static void signaturesOfThosePagesGo() {
        CHECKS.begin("late changes, all signatures of a page go when one of its cells changes");
        PressHall hall = withOld("1" + ONE + ",3" + SHUT + ",2" + ONE + ",3" + SHUT + ",0 ### ### ### #.#", 1, 5);
        change(hall, 3, 2, 55, 2, 20001, 41001);
        boolean[] signed = {false, true, false, true, false, true, true, true, true, true};
        for (int page = 0; page < 10; page++) {
            CHECKS.is("isReady(" + page + ")", signed[page], hall.isReady(page));
        }
    }

    private static void theOldOneCanComeBack() {
        CHECKS.begin("late changes, a story in place of another one, which goes");
        PressHall hall = withOld("1" + ONE, 1, 5);
        change(hall, 1, 1, 4, 1, 1, -1);
        CHECKS.is("change back", 0, hall.change(5, 4));
        CHECKS.is("cell", 204, hall.cell(0, 0));
        CHECKS.throwsIt("change of one that went", Checks.STATE, () -> hall.change(5, 4));
        CHECKS.is("change again", 0, hall.change(4, 5));
        CHECKS.is("lift", 1, hall.lift(5));
        CHECKS.is("lay", 1, hall.lay(4));
    }

    private static void withoutAWay() {
        CHECKS.begin("promise 13, -1 if there is no way, and then nothing happens");
        BUSY.keep("change, no page being of its section", -1, hall -> hall.change(0, 4));
        Twins oneShort = new Twins(CHECKS, () -> {
            PressHall hall = withOld("1" + ONE + ",0" + ONE, 1, 55);
            hall.story(1, 555, 3);
            return hall;
        });
        oneShort.keep("change, a cell too few", -1, hall -> hall.change(4, 5));
        PressHall hall = withOld("1" + ONE + ",0" + ONE, 1, 55);
        hall.story(1, 555, 3);
        hall.change(4, 5);
        CHECKS.is("lift of the old one, still there", 2, hall.lift(4));
        CHECKS.throwsIt("lift of the fresh one", Checks.STATE, () -> hall.lift(5));
    }

    private static void ofStoriesThatAreThere() {
        CHECKS.begin("promise 13, if there is no such story, of either");
        BUSY.refuseOutside("old", Checks.INDEX, 0, 5, (hall, old) -> hall.change(old, 5));
        BUSY.refuseOutside("fresh", Checks.INDEX, 0, 5, (hall, fresh) -> hall.change(0, fresh));
        FULL.refuseOutside("old", Checks.INDEX, 0, 19, (hall, old) -> hall.change(old, 19));
        FULL.refuseOutside("fresh", Checks.INDEX, 0, 19, (hall, fresh) -> hall.change(0, fresh));
        BUSY.refuse("both", Checks.INDEX, hall -> hall.change(6, 6));
    }

    private static void exceptionsInOrder() {
        CHECKS.begin("promise 13, IndexOutOfBoundsException before IllegalStateException");
        BUSY.refuse("old not laid out, no such fresh one", Checks.INDEX, hall -> hall.change(5, 6));
        BUSY.refuse("old not laid out, no such fresh one", Checks.INDEX, hall -> hall.change(4, -1));
        BUSY.refuse("no such old one, fresh laid out", Checks.INDEX, hall -> hall.change(6, 0));
        BUSY.refuse("no such old one, fresh laid out", Checks.INDEX, hall -> hall.change(-1, 1));
    }

    private static void ofWhatIsLaidOutToWhatIsNot() {
        CHECKS.begin("promise 13, if old is not laid out, or fresh is");
        BUSY.refuse("old not laid out", Checks.STATE, hall -> hall.change(4, 5));
        BUSY.refuse("old lifted", Checks.STATE, hall -> hall.change(3, 5));
        BUSY.refuse("fresh laid out", Checks.STATE, hall -> hall.change(0, 2));
        BUSY.refuse("old not laid out, fresh laid out", Checks.STATE, hall -> hall.change(5, 0));
        BUSY.refuse("itself, laid out", Checks.STATE, hall -> hall.change(0, 0));
        BUSY.refuse("itself, not laid out", Checks.STATE, hall -> hall.change(5, 5));
        FULL.refuse("fresh laid out", Checks.STATE, hall -> hall.change(18, 16));
        FULL.refuse("old lifted", Checks.STATE, hall -> hall.change(19, 16));
    }

    public static void main(String[] args) {
        theFewestPlatesOnOnePage();
        byItAndByWhatGoes();
        whatGoesFromEachPlate();
        withTheCellsOfThatOneFree();
        theSectionsStay();
        onlyTheFirstNForWhichThereIsAWay();
        onePageAheadOfTwo();
        fewerPlatesAheadOfAGreaterFirstPart();
        theOrderOfWaysInTwoParts();
        upTo4Plates();
        signaturesOfThosePagesGo();
        theOldOneCanComeBack();
        withoutAWay();
        ofStoriesThatAreThere();
        exceptionsInOrder();
        ofWhatIsLaidOutToWhatIsNot();
        CHECKS.end();
    }
}
