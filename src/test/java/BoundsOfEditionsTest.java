/** The sentences of the document that name a boundary: people, editions, corrections (promises 15 to 23). */
public final class BoundsOfEditionsTest {
    private static final Checks CHECKS = new Checks();
    private static final Twins BUSY = new Twins(CHECKS, Halls::busy);
    private static final Twins FULL = new Twins(CHECKS, Halls::full);
    private static final String SHUT = " ### ### ### ###";

    private BoundsOfEditionsTest() {
    }

    private static long bit(boolean answer) {
        return answer ? 1 : 0;
    }

    /** A hall whose only taken cell is the cell 0 of this page, by the advertisement 0. */
    private static PressHall withTaken(int page) {
        PressHall hall = new PressHall();
        hall.page(page, 1, false);
        hall.place(hall.advert(0, 1, 1, false, 1, page < 7 ? -1 : page - 7));
        return hall;
    }

    /** A hall with the stories 0 to count - 1, of one cell each, on page 0, in the edition 0. */
    private static PressHall withStories(int count) {
        PressHall hall = new PressHall();
        for (int i = 0; i < count; i++) {
            hall.lay(hall.story(0, 5, 1));
        }
        Halls.closeSigned(hall);
        return hall;
    }

    // ---- promise 15

    private static void person0To5() {
        CHECKS.begin("promise 15, person: 0 to 5");
        for (int person = 0; person < 6; person++) {
            PressHall hall = new PressHall();
            CHECKS.is("person leaves", false, hall.person(person));
            for (int other = 0; other < 6; other++) {
                int asked = other;
                if (other == person) {
                    CHECKS.throwsIt("sign", Checks.STATE, () -> hall.sign(0, asked));
                } else {
                    CHECKS.is("sign", other < person ? other + 1 : other, hall.sign(0, other));
                }
            }
            CHECKS.is("person comes back", true, hall.person(person));
            CHECKS.is("sign", 6, hall.sign(0, person));
            CHECKS.is("person leaves again", false, hall.person(person));
        }
        BUSY.refuseOutside("person", Checks.INDEX, 0, 5, (hall, person) -> bit(hall.person(person)));
    }

    private static void allPeopleLeave() {
        CHECKS.begin("promise 15, nobody being there, and all again");
        PressHall hall = withTaken(3);
        for (int person = 0; person < 6; person++) {
            hall.sign(3, person);
            CHECKS.is("person leaves", false, hall.person(person));
        }
        CHECKS.is("isReady, all signatures being none", false, hall.isReady(3));
        for (int person = 0; person < 6; person++) {
            CHECKS.is("person comes back", true, hall.person(person));
            CHECKS.is("isReady, signed by nobody", false, hall.isReady(3));
        }
        CHECKS.is("sign", 1, hall.sign(3, 5));
    }

    private static void aHoldOfOneWhoHasLeft() {
        CHECKS.begin("changes, a hold of one who has left is none any more, also if that person comes back");
        for (int page = 0; page < 10; page++) {
            int person = page % 6;
            PressHall hall = new PressHall();
            hall.hold(page, person);
            hall.hold(page, (person + 1) % 6);
            hall.person(person);
            CHECKS.is("isReady, held by the other", false, hall.isReady(page));
            hall.hold(page, (person + 1) % 6);
            CHECKS.is("isReady, held by nobody", true, hall.isReady(page));
            hall.person(person);
            CHECKS.is("isReady, that person being back", true, hall.isReady(page));
            CHECKS.is("hold", true, hall.hold(page, person));
        }
    }

    private static void aSignatureOfOneWhoHasLeft() {
        CHECKS.begin("changes, nor is a signature, also if that person comes back");
        for (int page = 0; page < 10; page++) {
            int person = page % 6;
            PressHall hall = withTaken(page);
            hall.sign(page, person);
            hall.sign(page, (person + 1) % 6);
            CHECKS.is("isReady, signed by two", true, hall.isReady(page));
            hall.person(person);
            CHECKS.is("isReady, signed by one", false, hall.isReady(page));
            hall.person(person);
            CHECKS.is("isReady, that person being back", false, hall.isReady(page));
            CHECKS.is("sign again", 2, hall.sign(page, person));
        }
    }

    // ---- promise 16

    private static void argumentsOfSign() {
        CHECKS.begin("promise 16, page: 0 to 9, person: 0 to 5");
        PressHall hall = new PressHall();
        for (int page = 0; page < 10; page++) {
            for (int person = 0; person < 6; person++) {
                CHECKS.is("sign", person + 1, hall.sign(page, person));
            }
        }
        BUSY.refuseOutside("page", Checks.INDEX, 0, 9, (other, page) -> other.sign(page, 2));
        BUSY.refuseOutside("person", Checks.INDEX, 0, 5, (other, person) -> other.sign(4, person));
    }

    private static void signOfOneWhoHasSignedOrLeft() {
        CHECKS.begin("promise 16, if the person has left, or has signed it");
        BUSY.refuse("sign, signed", Checks.STATE, hall -> hall.sign(2, 5));
        BUSY.refuse("sign, left", Checks.STATE, hall -> hall.sign(2, 4));
        FULL.refuse("sign, signed", Checks.STATE, hall -> hall.sign(0, 1));
        FULL.refuse("sign, left", Checks.STATE, hall -> hall.sign(9, 5));
        for (int page = 0; page < 10; page++) {
            for (int person = 0; person < 6; person++) {
                PressHall hall = new PressHall();
                int itsPage = page;
                int itsPerson = person;
                hall.sign(page, person);
                CHECKS.throwsIt("sign, signed", Checks.STATE, () -> hall.sign(itsPage, itsPerson));
                CHECKS.is("sign of another page", 1, hall.sign((page + 1) % 10, person));
                CHECKS.is("sign by another person", 2, hall.sign(page, (person + 1) % 6));
                hall.person(person);
                CHECKS.throwsIt("sign, left", Checks.STATE, () -> hall.sign(itsPage, itsPerson));
            }
        }
    }

    private static void exceptionsOfSignInOrder() {
        CHECKS.begin("promise 16, IndexOutOfBoundsException before IllegalStateException");
        BUSY.refuse("page 10, the person has left", Checks.INDEX, hall -> hall.sign(10, 4));
        BUSY.refuse("page -1, the person has left", Checks.INDEX, hall -> hall.sign(-1, 4));
    }

    private static void allSignaturesGoByEachChange() {
        CHECKS.begin("changes, all signatures of a page go when one of its cells changes");
        for (int page = 0; page < 10; page++) {
            PressHall hall = withTaken(page);
            for (int other = 0; other < 10; other++) {
                for (int person = 0; person < 6; person++) {
                    hall.sign(other, person);
                }
            }
            hall.takeOff(0);
            for (int other = 0; other < 10; other++) {
                int asked = other;
                if (other == page) {
                    CHECKS.is("sign, all being gone", 1, hall.sign(other, 5));
                } else {
                    CHECKS.throwsIt("sign of another page", Checks.STATE, () -> hall.sign(asked, 5));
                }
            }
        }
    }

    /** All pages are signed by the people 4 and 5, and no plate is touched, before a call that changes pages. */
    private static void changesPages(String what, PressHall hall, Twins.Question call, int... pages) {
        for (int person : new int[] {4, 4, 5, 5}) {
            hall.person(person);
        }
        for (int page = 0; page < 10; page++) {
            hall.sign(page, 4);
            hall.sign(page, 5);
        }
        hall.close();
        call.to(hall);
        int plates = 0;
        boolean[] changed = new boolean[10];
        for (int page : pages) {
            plates |= 1 << (page / 2);
            changed[page] = true;
        }
        CHECKS.is(what + ", touched", plates, hall.touched());
        for (int page = 0; page < 10; page++) {
            int asked = page;
            if (changed[page]) {
                CHECKS.is(what + ", sign, all being gone", 1, hall.sign(page, 4));
            } else {
                CHECKS.throwsIt(what + ", sign, none being gone", Checks.STATE, () -> hall.sign(asked, 4));
            }
        }
    }

    private static void eachKindOfChangeOfACell() {
        CHECKS.begin("changes, a plate is touched, and all signatures go, by each change of a cell");
        String[] pages = {"1 .## ### ### ###", "2" + SHUT, "0 ### ### ### ##.", "2" + SHUT, "2" + SHUT,
            "0 ### ### ### ##."};
        for (int cellOf = 7; cellOf < 10; cellOf++) {
            int page = cellOf;
            PressHall hall = new PressHall();
            hall.advert(0, 1, 1, false, -1, page - 7);
            changesPages("place", hall, other -> other.place(0), page);
            changesPages("takeOff", withTaken(page), other -> other.takeOff(0), page);
        }
        PressHall one = Halls.drawn(pages);
        one.story(0, 5, 1);
        changesPages("lay on one page", one, hall -> hall.lay(4), 2);
        changesPages("lift of one page", one, hall -> hall.lift(4), 2);
        PressHall two = Halls.drawn(pages);
        two.story(1, 55, 2);
        changesPages("lay in two parts", two, hall -> hall.lay(4), 0, 2);
        two.story(0, 55, 2);
        changesPages("change to two parts", two, hall -> hall.change(4, 5), 0, 2, 5);
        changesPages("lift of two parts", two, hall -> hall.lift(5), 2, 5);
        PressHall last = Halls.drawn(pages);
        changesPages("placeCorrection", last, hall -> hall.correct(0, 1) + hall.placeCorrection(), 0);
        changesPages("clean", last, hall -> hall.clean(5), 5);
        changesPages("clean without corrections", last, hall -> hall.clean(6));
    }

    // ---- promise 17

    private static void argumentsOfHold() {
        CHECKS.begin("promise 17, page: 0 to 9, person: 0 to 5");
        for (int page = 0; page < 10; page++) {
            for (int person = 0; person < 6; person++) {
                PressHall hall = new PressHall();
                CHECKS.is("hold", true, hall.hold(page, person));
                for (int other = 0; other < 10; other++) {
                    CHECKS.is("isReady(" + other + ")", other != page, hall.isReady(other));
                }
                CHECKS.is("let go", false, hall.hold(page, person));
                CHECKS.is("isReady", true, hall.isReady(page));
                CHECKS.is("hold again", true, hall.hold(page, person));
            }
        }
        BUSY.refuseOutside("page", Checks.INDEX, 0, 9, (hall, page) -> bit(hall.hold(page, 2)));
        BUSY.refuseOutside("person", Checks.INDEX, 0, 5, (hall, person) -> bit(hall.hold(4, person)));
    }

    private static void holdOfOneWhoHasLeft() {
        CHECKS.begin("promise 17, if the person has left");
        BUSY.refuse("hold", Checks.STATE, hall -> bit(hall.hold(0, 4)));
        FULL.refuse("hold", Checks.STATE, hall -> bit(hall.hold(9, 5)));
        for (int i = 0; i < 6; i++) {
            int person = i;
            PressHall hall = new PressHall();
            hall.hold(7, person);
            hall.person(person);
            CHECKS.throwsIt("hold", Checks.STATE, () -> bit(hall.hold(7, person)));
            hall.person(person);
            CHECKS.is("hold, being back", true, hall.hold(7, person));
        }
    }

    private static void exceptionsOfHoldInOrder() {
        CHECKS.begin("promise 17, IndexOutOfBoundsException before IllegalStateException");
        BUSY.refuse("page 10, the person has left", Checks.INDEX, hall -> bit(hall.hold(10, 4)));
        BUSY.refuse("page -1, the person has left", Checks.INDEX, hall -> bit(hall.hold(-1, 4)));
    }

    private static void heldByAllAndLetGoByAll() {
        CHECKS.begin("promise 17, a page that all people hold");
        PressHall hall = new PressHall();
        for (int person = 0; person < 6; person++) {
            hall.hold(9, person);
        }
        for (int person = 0; person < 6; person++) {
            CHECKS.is("isReady, held by " + (6 - person), false, hall.isReady(9));
            CHECKS.is("let go", false, hall.hold(9, person));
        }
        CHECKS.is("isReady, held by nobody", true, hall.isReady(9));
    }

    // ---- promise 18

    private static void readyIfTwoSignedIt() {
        CHECKS.begin("promise 18, a page is ready if two signed it");
        for (int page = 0; page < 10; page++) {
            PressHall hall = withTaken(page);
            CHECKS.is("isReady, signed by nobody", false, hall.isReady(page));
            for (int person = 5; person >= 0; person--) {
                hall.sign(page, person);
                CHECKS.is("isReady, signed by " + (6 - person), person < 5, hall.isReady(page));
            }
        }
        BUSY.refuseOutside("page", Checks.INDEX, 0, 9, (hall, page) -> bit(hall.isReady(page)));
    }

    private static void readyIfNobodyHoldsIt() {
        CHECKS.begin("promise 18, and nobody holds it");
        for (int person = 0; person < 6; person++) {
            PressHall hall = withTaken(6);
            hall.sign(6, person);
            hall.sign(6, (person + 1) % 6);
            hall.hold(6, person);
            CHECKS.is("isReady, held by one of those who signed it", false, hall.isReady(6));
            hall.hold(6, (person + 2) % 6);
            hall.hold(6, person);
            CHECKS.is("isReady, held by another", false, hall.isReady(6));
            hall.hold(6, (person + 2) % 6);
            CHECKS.is("isReady, let go", true, hall.isReady(6));
        }
    }

    private static void readyIfItIsEmpty() {
        CHECKS.begin("promise 18, an empty page is ready if nobody holds it");
        for (int page = 0; page < 10; page++) {
            PressHall hall = withTaken(page);
            CHECKS.is("isReady, not empty", false, hall.isReady(page));
            hall.takeOff(0);
            CHECKS.is("isReady, empty", true, hall.isReady(page));
            hall.hold(page, 0);
            CHECKS.is("isReady, empty and held", false, hall.isReady(page));
            hall.sign(page, 1);
            hall.sign(page, 2);
            CHECKS.is("isReady, empty, signed and held", false, hall.isReady(page));
        }
        String[] one = {"0 ### ### ### ##.", "0 ... ... ... ..#"};
        for (String page : one) {
            CHECKS.is("isReady, with " + page, false, Halls.drawn(page).isReady(0));
        }
        BUSY.keep("isReady, a call that only asks", 1, hall -> bit(hall.isReady(9)));
        BUSY.keep("isReady, a call that only asks", 0, hall -> bit(hall.isReady(0)));
    }

    // ---- promise 19

    private static void notIfAPageIsNotReady() {
        CHECKS.begin("promise 19, if all pages are ready");
        for (int i = 0; i < 10; i++) {
            int page = i;
            Twins unsigned = new Twins(CHECKS, () -> withTaken(page));
            unsigned.refuse("close, page " + page + " being unsigned", Checks.STATE, PressHall::close);
            PressHall hall = withTaken(page);
            hall.sign(page, 0);
            CHECKS.throwsIt("close, signed by one", Checks.STATE, hall::close);
            hall.sign(page, 1);
            hall.hold(page, 2);
            CHECKS.throwsIt("close, held", Checks.STATE, hall::close);
            hall.hold(page, 2);
            CHECKS.is("close", 0, hall.close());
            hall.hold(page, 2);
            hall.takeOff(0);
            CHECKS.throwsIt("close, empty and held", Checks.STATE, hall::close);
            hall.hold(page, 2);
            CHECKS.is("close, all empty", 1, hall.close());
        }
    }

    private static void notIfACorrectionIsOwed() {
        CHECKS.begin("promise 19, no correction is owed");
        Twins owed = new Twins(CHECKS, () -> {
            PressHall hall = withStories(3);
            hall.correct(0, 2);
            return hall;
        });
        owed.refuse("close, one being owed", Checks.STATE, PressHall::close);
        PressHall hall = withStories(3);
        hall.correct(0, 2);
        hall.correct(0, 1);
        hall.placeCorrection();
        Halls.signByTwo(hall, 0);
        CHECKS.throwsIt("close, one being owed still", Checks.STATE, hall::close);
        hall.placeCorrection();
        CHECKS.throwsIt("close, signatures being gone", Checks.STATE, hall::close);
        Halls.signByTwo(hall, 0);
        CHECKS.is("close", 1, hall.close());
    }

    private static void fewerThan8Editions() {
        CHECKS.begin("promise 19, there are fewer than 8");
        PressHall hall = new PressHall();
        for (int edition = 0; edition < 8; edition++) {
            CHECKS.is("close", edition, hall.close());
        }
        CHECKS.throwsIt("close, 8 being there", Checks.STATE, hall::close);
        CHECKS.throwsIt("close, 8 being there", Checks.STATE, hall::close);
        Twins eight = new Twins(CHECKS, () -> {
            PressHall other = withTaken(9);
            for (int edition = 0; edition < 8; edition++) {
                Halls.closeSigned(other);
            }
            other.place(other.advert(1, 1, 1, false, -1, -1));
            Halls.signByTwo(other, 0);
            other.pass(50);
            other.truck(0, 1);
            return other;
        });
        eight.refuse("close, 8 being there", Checks.STATE, PressHall::close);
        FULL.refuse("close, 8 being there, and all the rest", Checks.STATE, PressHall::close);
        BUSY.refuse("close, pages not being ready, corrections being owed", Checks.STATE, PressHall::close);
    }

    private static void pagesStayAsTheyAre() {
        CHECKS.begin("promise 19, all plates are untouched then, but pages stay as they are, and signed");
        for (int page = 0; page < 10; page++) {
            PressHall hall = withTaken(page);
            hall.sign(page, 2);
            hall.sign(page, 3);
            CHECKS.is("close", 0, hall.close());
            CHECKS.is("touched", 0, hall.touched());
            CHECKS.is("cell", 100, hall.cell(page, 0));
            CHECKS.is("isReady", true, hall.isReady(page));
            CHECKS.is("sign, by a third one", 3, hall.sign(page, 0));
            CHECKS.is("close again", 1, hall.close());
        }
    }

    // ---- promise 20

    private static void argumentsOfPrinted() {
        CHECKS.begin("promise 20, edition, page: 0 to 9, cell: 0 to 11");
        BUSY.refuseOutside("edition", Checks.INDEX, 0, 0, (hall, edition) -> hall.printed(edition, 0, 0));
        FULL.refuseOutside("edition", Checks.INDEX, 0, 7, (hall, edition) -> hall.printed(edition, 0, 0));
        FULL.refuseOutside("page", Checks.INDEX, 0, 9, (hall, page) -> hall.printed(7, page, 0));
        FULL.refuseOutside("cell", Checks.INDEX, 0, 11, (hall, cell) -> hall.printed(0, 0, cell));
        FULL.refuseOutside("cell of the last page", Checks.INDEX, 0, 11, (hall, cell) -> hall.printed(7, 9, cell));
    }

    private static void printedOfEachPageAndCell() {
        CHECKS.begin("promise 20, what took a cell in an edition");
        for (int page = 0; page < 10; page++) {
            PressHall hall = withTaken(page);
            Halls.closeSigned(hall);
            hall.takeOff(0);
            Halls.closeSigned(hall);
            for (int asked = 0; asked < 10; asked++) {
                for (int cell = 0; cell < 12; cell++) {
                    CHECKS.is("printed(0, " + asked + ", " + cell + ")", asked == page && cell == 0 ? 100 : 0,
                            hall.printed(0, asked, cell));
                    CHECKS.is("printed(1, " + asked + ", " + cell + ")", 0, hall.printed(1, asked, cell));
                }
            }
        }
    }

    private static void eachOf8EditionsIsKept() {
        CHECKS.begin("promise 20, each of 8 editions goes into the archive, as its pages are");
        PressHall hall = new PressHall();
        hall.distance(0, 0);
        for (int edition = 0; edition < 8; edition++) {
            hall.place(hall.advert(0, 1, 1, false, -1, -1));
            CHECKS.is("close", edition, Halls.closeSigned(hall));
        }
        hall.takeOff(0);
        for (int edition = 0; edition < 8; edition++) {
            for (int cell = 0; cell < 12; cell++) {
                CHECKS.is("printed(" + edition + ", 0, " + cell + ")", cell <= edition ? 100 + cell : 0,
                        hall.printed(edition, 0, cell));
            }
        }
        PressHall full = new PressHall();
        full.place(full.advert(0, 3, 4, false, -1, 2));
        Halls.closeSigned(full);
        CHECKS.is("printed, a full page", 100, full.printed(0, 9, 11));
        FULL.keep("printed, a call that only asks", 100, other -> other.printed(7, 0, 0));
    }

    // ---- promise 21

    private static void argumentsOfCorrect() {
        CHECKS.begin("promise 21, if there is no such edition or story");
        BUSY.refuseOutside("edition", Checks.INDEX, 0, 0, (hall, edition) -> hall.correct(edition, 1));
        BUSY.refuseOutside("story", Checks.INDEX, 0, 5, (hall, story) -> hall.correct(0, story));
        FULL.refuseOutside("edition", Checks.INDEX, 0, 7, (hall, edition) -> hall.correct(edition, 0));
        FULL.refuseOutside("story", Checks.INDEX, 0, 19, (hall, story) -> hall.correct(7, story));
    }

    private static void exceptionsOfCorrectInOrder() {
        CHECKS.begin("promise 21, IndexOutOfBoundsException before IllegalStateException");
        BUSY.refuse("no such edition, one of it owed", Checks.INDEX, hall -> hall.correct(1, 2));
        BUSY.refuse("no such edition, not having it", Checks.INDEX, hall -> hall.correct(-1, 4));
        BUSY.refuse("neither", Checks.INDEX, hall -> hall.correct(1, 6));
        FULL.refuse("no such story, 5 being owed", Checks.INDEX, hall -> hall.correct(0, 20));
        FULL.refuse("no such edition, 5 being owed", Checks.INDEX, hall -> hall.correct(8, 0));
    }

    private static void notIfTheEditionDoesNotHaveIt() {
        CHECKS.begin("promise 21, if the edition does not have the story");
        BUSY.refuse("never laid out", Checks.STATE, hall -> hall.correct(0, 4));
        PressHall hall = withStories(2);
        hall.lift(0);
        hall.story(0, 5, 1);
        hall.story(0, 5, 1);
        hall.lay(2);
        CHECKS.is("close", 1, Halls.closeSigned(hall));
        hall.lay(3);
        Twins later = new Twins(CHECKS, () -> {
            PressHall other = withStories(1);
            other.lay(other.story(0, 5, 1));
            return other;
        });
        later.refuse("laid out since", Checks.STATE, other -> other.correct(0, 1));
        CHECKS.throwsIt("in the edition before", Checks.STATE, () -> hall.correct(1, 0));
        CHECKS.throwsIt("in the edition behind", Checks.STATE, () -> hall.correct(0, 2));
        CHECKS.throwsIt("laid out, in no edition", Checks.STATE, () -> hall.correct(1, 3));
        CHECKS.is("correct, lifted, but in that edition", 1, hall.correct(0, 0));
        CHECKS.is("correct, in both editions", 2, hall.correct(0, 1));
        CHECKS.is("correct, in the last edition", 3, hall.correct(1, 2));
    }

    private static void aCorrectionOfItIsNotTheStory() {
        CHECKS.begin("promise 21, if the edition does not have the story: a correction of it is none");
        Twins corrected = new Twins(CHECKS, () -> {
            PressHall hall = withStories(1);
            hall.correct(0, 0);
            hall.placeCorrection();
            hall.lift(0);
            Halls.closeSigned(hall);
            return hall;
        });
        corrected.refuse("correct, by the edition with its correction", Checks.STATE, hall -> hall.correct(1, 0));
        PressHall hall = withStories(1);
        hall.correct(0, 0);
        hall.placeCorrection();
        hall.lift(0);
        CHECKS.is("correct, by the edition with the story", 1, hall.correct(0, 0));
    }

    private static void theEditionHasItInAnyCell() {
        CHECKS.begin("promise 21, a story that an edition in the archive has, in whatever cell");
        for (int cell = 0; cell < 12; cell++) {
            int page = cell % 7;
            String[] pages = new String[7];
            for (int i = 0; i < 7; i++) {
                char[] signs = ("0" + SHUT).toCharArray();
                signs[2 + 4 * (cell / 3) + cell % 3] = i == page ? '.' : '#';
                pages[i] = new String(signs);
            }
            PressHall hall = Halls.drawn(pages);
            hall.lay(hall.story(0, 5, 1));
            CHECKS.is("part", 10000 * page + 100 * cell + 1, hall.part(4, 0));
            CHECKS.throwsIt("correct, in no edition yet", Checks.STATE, () -> hall.correct(0, 4));
            Halls.closeSigned(hall);
            CHECKS.is("correct", 1, hall.correct(1, 4));
        }
    }

    private static void notIfOneOfItIsOwed() {
        CHECKS.begin("promise 21, if one of it is owed");
        BUSY.refuse("correct, owed", Checks.STATE, hall -> hall.correct(0, 2));
        BUSY.refuse("correct, owed, lifted since", Checks.STATE, hall -> hall.correct(0, 3));
        for (int position = 0; position < 5; position++) {
            PressHall hall = withStories(5);
            for (int story = 0; story < 5; story++) {
                hall.correct(0, story);
                if (story >= position) {
                    int owed = position;
                    CHECKS.throwsIt("correct, owed", Checks.STATE, () -> hall.correct(0, owed));
                }
            }
        }
        PressHall hall = withStories(1);
        Halls.closeSigned(hall);
        hall.correct(0, 0);
        CHECKS.throwsIt("correct, of another edition", Checks.STATE, () -> hall.correct(1, 0));
        hall.placeCorrection();
        CHECKS.is("correct, placed since", 1, hall.correct(1, 0));
    }

    private static void notIf5AreOwed() {
        CHECKS.begin("promise 21, if 5 are owed");
        PressHall hall = withStories(7);
        for (int story = 0; story < 5; story++) {
            CHECKS.is("correct", story + 1, hall.correct(0, story));
        }
        CHECKS.throwsIt("correct, 5 being owed", Checks.STATE, () -> hall.correct(0, 5));
        CHECKS.throwsIt("correct, 5 being owed", Checks.STATE, () -> hall.correct(0, 6));
        FULL.refuse("correct, 5 being owed", Checks.STATE, other -> other.correct(7, 0));
        hall.placeCorrection();
        CHECKS.is("correct, 4 being owed", 5, hall.correct(0, 6));
        CHECKS.throwsIt("correct, 5 being owed again", Checks.STATE, () -> hall.correct(0, 5));
    }

    // ---- promise 22

    private static void notIfNoneIsOwed() {
        CHECKS.begin("promise 22, if none is owed");
        Twins none = new Twins(CHECKS, () -> withStories(2));
        none.refuse("placeCorrection", Checks.STATE, PressHall::placeCorrection);
        Twins allPlaced = new Twins(CHECKS, () -> {
            PressHall hall = Halls.busy();
            hall.placeCorrection();
            hall.placeCorrection();
            return hall;
        });
        allPlaced.refuse("placeCorrection, all being placed", Checks.STATE, PressHall::placeCorrection);
        PressHall hall = withStories(2);
        hall.correct(0, 1);
        CHECKS.is("placeCorrection", 1, hall.placeCorrection());
        CHECKS.throwsIt("placeCorrection, the only one being placed", Checks.STATE, hall::placeCorrection);
        CHECKS.is("cell", 0, hall.cell(0, 2));
    }

    private static void theOneThatIsOwedLongest() {
        CHECKS.begin("promise 22, the correction that is owed longest");
        PressHall hall = withStories(6);
        int[] order = {4, 0, 3, 5, 1};
        for (int story : order) {
            hall.correct(0, story);
        }
        hall.lift(2);
        int[] cells = {2, 5, 6, 7, 8};
        for (int i = 0; i < 5; i++) {
            CHECKS.is("placeCorrection", cells[i], hall.placeCorrection());
            CHECKS.is("cell", 300 + order[i], hall.cell(0, cells[i]));
        }
        CHECKS.throwsIt("placeCorrection, none being owed", Checks.STATE, hall::placeCorrection);
    }

    private static void theLowestFreeCell() {
        CHECKS.begin("promise 22, the lowest free cell of the lowest page of the pages 0 to 6 that has one");
        for (int page = 0; page < 7; page++) {
            for (int cell = 0; cell < 12; cell++) {
                String[] pages = new String[page + 1];
                for (int i = 0; i <= page; i++) {
                    char[] signs = ("0" + SHUT).toCharArray();
                    for (int free = cell; i == page && free < 12; free += 5) {
                        signs[2 + 4 * (free / 3) + free % 3] = '.';
                    }
                    pages[i] = new String(signs);
                }
                PressHall hall = Halls.drawn(pages);
                hall.correct(0, 0);
                CHECKS.is("placeCorrection", 100 * page + cell, hall.placeCorrection());
                CHECKS.is("cell", 300, hall.cell(page, cell));
            }
        }
    }

    private static void ofTheSectionOfTheStory() {
        CHECKS.begin("promise 22, that is of the section of the story");
        for (int section = 0; section < 4; section++) {
            PressHall hall = Halls.drawn("2 #.# ### ### ##.", "1 #.# ### ### ##.", "0 #.# ### ### ##.",
                    "3 #.# ### ### ##.");
            hall.correct(0, section);
            int page = section == 3 ? 3 : 2 - section;
            CHECKS.is("placeCorrection", 100 * page + 1, hall.placeCorrection());
        }
    }

    private static void withoutAPlaceForIt() {
        CHECKS.begin("promise 22, -1 if there is no place, and then nothing happens");
        Twins noRoom = new Twins(CHECKS, () -> {
            PressHall hall = Halls.drawn("0 #.. ### ### ###", "1" + SHUT, "0 ### ### ### ##.");
            hall.page(7, 1, false);
            hall.page(8, 1, false);
            hall.page(9, 1, false);
            hall.correct(0, 1);
            hall.correct(0, 0);
            return hall;
        });
        // The one behind it could be placed; but it is owed less long.
        noRoom.keep("placeCorrection, the pages of its section being full", -1, PressHall::placeCorrection);
        Twins fullPage = new Twins(CHECKS, () -> {
            PressHall hall = Halls.busy();
            hall.placeCorrection();
            CHECKS.is("lay on page 3", 6, hall.lay(hall.story(2, 999999, 6)));
            CHECKS.is("lay on its last cell", 1, hall.lay(hall.story(2, 1, 1)));
            return hall;
        });
        fullPage.keep("placeCorrection, the page of its section being full", -1, PressHall::placeCorrection);
        PressHall hall = Halls.drawn("0" + SHUT, "1 ### ### ### ##.");
        hall.correct(0, 0);
        CHECKS.is("placeCorrection", -1, hall.placeCorrection());
        CHECKS.throwsIt("correct, still owed", Checks.STATE, () -> hall.correct(0, 0));
        hall.clean(0);
        CHECKS.is("placeCorrection, there being room", 0, hall.placeCorrection());
        PressHall other = Halls.drawn("0 ### ### ### ##.");
        other.page(1, 1, false);
        other.correct(0, 0);
        CHECKS.is("placeCorrection in the last free cell", 11, other.placeCorrection());
    }

    private static void placeCorrectionTouches() {
        CHECKS.begin("promise 22, a cell that changes");
        PressHall hall = Halls.drawn("1" + SHUT, "1" + SHUT, "0 #.. ... ... ...");
        Halls.closeSigned(hall);
        hall.correct(0, 0);
        CHECKS.is("placeCorrection", 201, hall.placeCorrection());
        CHECKS.is("touched", 2, hall.touched());
        for (int page = 0; page < 10; page++) {
            CHECKS.is("isReady(" + page + ")", page != 2, hall.isReady(page));
        }
    }

    // ---- promise 23

    private static void cleanOfPages0To9() {
        CHECKS.begin("promise 23, page: 0 to 9");
        PressHall hall = new PressHall();
        for (int page = 0; page < 10; page++) {
            CHECKS.is("clean, empty", 0, hall.clean(page));
        }
        for (int page = 0; page < 7; page++) {
            String[] pages = {"0" + SHUT, "0" + SHUT, "0" + SHUT, "0" + SHUT, "0" + SHUT, "0" + SHUT, "0" + SHUT};
            pages[page] = "0 ... ... ... ..#";
            PressHall other = Halls.drawn(pages);
            Halls.closeSigned(other);
            CHECKS.is("clean, the last cell", 1, other.clean(page));
            CHECKS.is("cell", 0, other.cell(page, 11));
            CHECKS.is("touched", 1 << (page / 2), other.touched());
            CHECKS.is("cell of another page", 300, other.cell((page + 1) % 7, 11));
            CHECKS.is("clean again", 0, other.clean(page));
        }
        BUSY.refuseOutside("page", Checks.INDEX, 0, 9, PressHall::clean);
        FULL.refuseOutside("page", Checks.INDEX, 0, 9, PressHall::clean);
    }

    private static void cleanOf0To12() {
        CHECKS.begin("promise 23, all corrections, none to a full page");
        for (int count = 0; count <= 12; count++) {
            PressHall hall = withStories(1);
            hall.lift(0);
            for (int i = 0; i < count; i++) {
                hall.correct(0, 0);
                hall.placeCorrection();
            }
            CHECKS.is("clean", count, hall.clean(0));
            for (int cell = 0; cell < 12; cell++) {
                CHECKS.is("cell", 0, hall.cell(0, cell));
            }
            CHECKS.is("isReady, empty", true, hall.isReady(0));
        }
    }

    private static void cleanWithoutCorrections() {
        CHECKS.begin("promise 23, a page without corrections stays as it is, and signed");
        BUSY.keep("clean(1), a story and an advertisement", 0, hall -> hall.clean(1));
        BUSY.keep("clean(8), an advertisement for a zone", 0, hall -> hall.clean(8));
        BUSY.keep("clean(9), empty", 0, hall -> hall.clean(9));
        FULL.keep("clean(2), full", 0, hall -> hall.clean(2));
    }

    private static void cleanLeavesTheOwedOnes() {
        CHECKS.begin("promise 23, those that are owed stay owed");
        PressHall hall = Halls.busy();
        CHECKS.is("clean", 1, hall.clean(0));
        CHECKS.is("correct", 3, hall.correct(0, 1));
        CHECKS.throwsIt("correct, owed", Checks.STATE, () -> hall.correct(0, 2));
    }

    private static void people() {
        person0To5();
        allPeopleLeave();
        aHoldOfOneWhoHasLeft();
        aSignatureOfOneWhoHasLeft();
        argumentsOfSign();
        signOfOneWhoHasSignedOrLeft();
        exceptionsOfSignInOrder();
        allSignaturesGoByEachChange();
        eachKindOfChangeOfACell();
        argumentsOfHold();
        holdOfOneWhoHasLeft();
        exceptionsOfHoldInOrder();
        heldByAllAndLetGoByAll();
        readyIfTwoSignedIt();
        readyIfNobodyHoldsIt();
        readyIfItIsEmpty();
    }

    private static void editions() {
        notIfAPageIsNotReady();
        notIfACorrectionIsOwed();
        fewerThan8Editions();
        pagesStayAsTheyAre();
        argumentsOfPrinted();
        printedOfEachPageAndCell();
        eachOf8EditionsIsKept();
    }

    private static void corrections() {
        argumentsOfCorrect();
        exceptionsOfCorrectInOrder();
        notIfTheEditionDoesNotHaveIt();
        aCorrectionOfItIsNotTheStory();
        theEditionHasItInAnyCell();
        notIfOneOfItIsOwed();
        notIf5AreOwed();
        notIfNoneIsOwed();
        theOneThatIsOwedLongest();
        theLowestFreeCell();
        ofTheSectionOfTheStory();
        withoutAPlaceForIt();
        placeCorrectionTouches();
        cleanOfPages0To9();
        cleanOf0To12();
        cleanWithoutCorrections();
        cleanLeavesTheOwedOnes();
    }

    public static void main(String[] args) {
        people();
        editions();
        corrections();
        CHECKS.end();
    }
}
