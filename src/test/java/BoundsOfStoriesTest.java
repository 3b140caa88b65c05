/** The sentences of the document that name a boundary: stories that are laid out (promises 10 to 12, and 14). */
public final class BoundsOfStoriesTest {
    private static final Checks CHECKS = new Checks();
    private static final Twins BUSY = new Twins(CHECKS, Halls::busy);
    private static final Twins FULL = new Twins(CHECKS, Halls::full);
    private static final String SHUT = "### ### ### ###";
    private static final String OPEN = "... ... ... ...";
    /** Pages of which the first cells in the order of columns are free, 0 to 11 of them. */
    private static final String[] FIRST_FREE = {
        "### ### ### ###", ".## ### ### ###", ".## .## ### ###", ".## .## .## ###", ".## .## .## .##",
        "..# .## .## .##", "..# ..# .## .##", "..# ..# ..# .##", "..# ..# ..# ..#", "... ..# ..# ..#",
        "... ... ..# ..#", "... ... ... ..#",
    };

    private BoundsOfStoriesTest() {
    }

    /** The lines of a story with so many in all, in as few paragraphs as can be: digits of 9, and what is left. */
    private static int linesOf(int sum) {
        int lines = sum % 9;
        for (int place = sum % 9 == 0 ? 1 : 10, rest = sum / 9; rest > 0; rest--) {
            lines += 9 * place;
            place *= 10;
        }
        return lines;
    }

    private static int paragraphsOf(int lines) {
        return Integer.toString(lines).length();
    }

    /** A hall with these pages, each "section cells", on which a story of all its paragraphs or more is laid out. */
    private static PressHall laidOut(int due, int section, int lines, int least, String... pages) {
        PressHall hall = Halls.drawn(pages);
        CHECKS.is("lay of " + lines + " on " + String.join(", ", pages), due,
                hall.lay(hall.story(section, lines, least)));
        return hall;
    }

    private static void isLaid(PressHall hall, int part0, int part1) {
        CHECKS.is("part 0", part0, hall.part(4, 0));
        CHECKS.is("part 1", part1, hall.part(4, 1));
    }

    // ---- promise 10

    private static void argumentsOfStory() {
        CHECKS.begin("promise 10, section, lines or least out of range");
        BUSY.refuseOutside("section", Checks.ARGUMENT, 0, 3, (hall, section) -> hall.story(section, 1, 1));
        BUSY.refuseOutside("lines", Checks.ARGUMENT, 1, 999999, (hall, lines) -> hall.story(0, lines, 1));
        for (int paragraphs = 1; paragraphs <= 6; paragraphs++) {
            int lines = 111111 / (int) Math.pow(10, 6 - paragraphs);
            BUSY.refuseOutside("least of " + lines, Checks.ARGUMENT, 1, paragraphs,
                    (hall, least) -> hall.story(0, lines, least));
            for (int least = 1; least <= paragraphs; least++) {
                CHECKS.is("story with least " + least, 0, new PressHall().story(0, lines, least));
            }
        }
    }

    private static void sectionsOfStory() {
        CHECKS.begin("promise 10, section: 0 to 3");
        for (int section = 0; section < 4; section++) {
            PressHall hall = new PressHall();
            for (int page = 0; page < 4; page++) {
                hall.page(page, 3 - page, false);
            }
            CHECKS.is("story", 0, hall.story(section, 1, 1));
            CHECKS.is("lay", 1, hall.lay(0));
            CHECKS.is("part on the page of the section", 10000 * (3 - section) + 1, hall.part(0, 0));
        }
    }

    private static void oneToSixDigits() {
        CHECKS.begin("promise 10, lines: 1 to 6 digits, each 1 to 9");
        for (int lines : new int[] {1, 9, 11, 99, 111, 999, 1111, 9999, 11111, 99999, 111111, 999999, 123456, 987654}) {
            PressHall hall = new PressHall();
            CHECKS.is("story of " + lines, 0, hall.story(0, lines, paragraphsOf(lines)));
            CHECKS.is("lay of " + lines, paragraphsOf(lines), hall.lay(0));
        }
        for (int lines : new int[] {1111111, 9999999, 1000000, 1111110, 11111111, 999999999, 1111111111}) {
            BUSY.refuse("story of " + lines, Checks.ARGUMENT, hall -> hall.story(0, lines, 1));
        }
    }

    private static void noDigitIs0() {
        CHECKS.begin("promise 10, lines: each 1 to 9, none 0");
        for (int paragraphs = 1; paragraphs <= 6; paragraphs++) {
            for (int place = 1; place <= paragraphs; place++) {
                int digit = (int) Math.pow(10, place - 1);
                int lines = 999999 / (int) Math.pow(10, 6 - paragraphs) - 9 * digit;
                // Without its first digit a number has one digit fewer: just 0 is none.
                if (place < paragraphs || paragraphs == 1) {
                    CHECKS.throwsIt("story of " + lines, Checks.ARGUMENT, () -> new PressHall().story(0, lines, 1));
                }
            }
        }
        BUSY.refuse("story of 909999", Checks.ARGUMENT, hall -> hall.story(0, 909999, 1));
        BUSY.refuse("story of 100000", Checks.ARGUMENT, hall -> hall.story(0, 100000, 1));
    }

    private static void twentyStories() {
        CHECKS.begin("promise 10, if there are 20");
        PressHall hall = new PressHall();
        for (int story = 0; story < 20; story++) {
            CHECKS.is("story", story, hall.story(story % 4, 1, 1));
        }
        CHECKS.throwsIt("story, 20 are there", Checks.STATE, () -> hall.story(0, 1, 1));
        CHECKS.throwsIt("story, 20 are there", Checks.STATE, () -> hall.story(0, 1, 1));
        CHECKS.is("lay(16)", 1, hall.lay(16));
        FULL.refuse("story, 20 are there", Checks.STATE, other -> other.story(3, 999999, 6));
    }

    private static void exceptionsOfStoryInOrder() {
        CHECKS.begin("promise 10, IllegalArgumentException before IllegalStateException, 20 being there");
        FULL.refuse("section 4", Checks.ARGUMENT, hall -> hall.story(4, 1, 1));
        FULL.refuse("lines 0", Checks.ARGUMENT, hall -> hall.story(0, 0, 1));
        FULL.refuse("lines 1000000", Checks.ARGUMENT, hall -> hall.story(0, 1000000, 1));
        FULL.refuse("least 2 of 1", Checks.ARGUMENT, hall -> hall.story(0, 1, 2));
    }

    // ---- promise 11

    private static void aCellTakes5Lines() {
        CHECKS.begin("stories, a cell takes 5 lines; as many as its lines need");
        for (int sum = 1; sum <= 54; sum++) {
            int lines = linesOf(sum);
            PressHall hall = new PressHall();
            hall.story(0, lines, paragraphsOf(lines));
            CHECKS.is("lay of " + sum + " lines", paragraphsOf(lines), hall.lay(0));
            CHECKS.is("part of " + sum + " lines", (sum + 4) / 5, hall.part(0, 0));
            int taken = 0;
            for (int cell = 0; cell < 12; cell++) {
                taken += hall.cell(0, cell) == 200 ? 1 : 0;
            }
            CHECKS.is("cells of " + sum + " lines", (sum + 4) / 5, taken);
        }
    }

    private static void theLinesOfAPartCountTogether() {
        CHECKS.begin("stories, a cell takes 5 lines: those of all paragraphs of a part together");
        isLaid(laidOut(6, 0, 111111, 6, "0 " + FIRST_FREE[2], "0 " + SHUT), 2, -1);
        isLaid(laidOut(5, 0, 11111, 5, "0 " + FIRST_FREE[1], "0 " + SHUT), 1, -1);
        isLaid(laidOut(0, 0, 111111, 6, "0 " + FIRST_FREE[1], "0 " + SHUT), -1, -1);
    }

    private static void columnsAreJoinedFromBottomToTop() {
        CHECKS.begin("stories, those of the column 0 from the top, then those of the column 1, and so on");
        isLaid(laidOut(2, 0, 55, 2, "0 #.# ### ### .##"), 902, -1);
        isLaid(laidOut(2, 0, 55, 2, "0 ##. ### ### #.#"), 1002, -1);
        isLaid(laidOut(6, 0, 555555, 6, "0 #.. #.# #.# ..#"), 906, -1);
        isLaid(laidOut(2, 0, 55, 2, "0 .## .## ### ###"), 2, -1);
        isLaid(laidOut(2, 0, 55, 2, "0 ### ### ##. ##."), 802, -1);
    }

    private static void rowsAreNotJoined() {
        CHECKS.begin("stories, cells side by side, and the last and first one, are not next to one another");
        isLaid(laidOut(0, 0, 55, 2, "0 ..# ### ### ###"), -1, -1);
        isLaid(laidOut(0, 0, 55, 2, "0 ### #.. ### ###"), -1, -1);
        isLaid(laidOut(0, 0, 55, 2, "0 .## ### ### ##."), -1, -1);
        isLaid(laidOut(0, 0, 55, 2, "0 ##. ### ### .##"), -1, -1);
        isLaid(laidOut(0, 0, 55, 2, "0 .## ### ### .##"), -1, -1);
        isLaid(laidOut(0, 0, 55, 2, "0 .#. ### .#. ###"), -1, -1);
        isLaid(laidOut(0, 0, 55, 2, "0 ### ### #.# .##"), -1, -1);
    }

    private static void inTheFirstSuchCells() {
        CHECKS.begin("stories, in the first such cells that are free");
        isLaid(laidOut(2, 0, 55, 2, "0 .#. ### .## .##"), 602, -1);
        isLaid(laidOut(2, 0, 55, 2, "0 ..# ..# ### ###"), 2, -1);
        isLaid(laidOut(3, 0, 555, 3, "0 ..# ..# #.# ###"), 103, -1);
        isLaid(laidOut(3, 0, 555, 3, "0 .#. .#. ##. ##."), 203, -1);
        isLaid(laidOut(1, 0, 5, 1, "0 ##. ##. ##. ##."), 201, -1);
    }

    private static void oneCellTooFew() {
        CHECKS.begin("stories, as many cells as its lines need: one fewer are too few");
        for (int free = 1; free <= 10; free++) {
            int fits = linesOf(5 * free);
            int tooMany = linesOf(5 * free + 1);
            isLaid(laidOut(paragraphsOf(fits), 0, fits, paragraphsOf(fits), "0 " + FIRST_FREE[free]), free, -1);
            isLaid(laidOut(0, 0, tooMany, paragraphsOf(tooMany), "0 " + FIRST_FREE[free]), -1, -1);
        }
        isLaid(laidOut(6, 0, 999999, 6, "0 " + FIRST_FREE[11]), 11, -1);
        isLaid(laidOut(6, 0, 999999, 6, "0 #.. ... ... ..."), 311, -1);
        isLaid(laidOut(0, 0, 999999, 6, "0 ... #.. ... ..."), -1, -1);
    }

    private static void onPages0To6OfItsSection() {
        CHECKS.begin("stories, on one page of the pages 0 to 6 of its section");
        for (int page = 0; page < 10; page++) {
            PressHall hall = new PressHall();
            hall.page(page, 2, false);
            hall.story(2, 5, 1);
            CHECKS.is("lay with page " + page, page < 7 ? 1 : 0, hall.lay(0));
            CHECKS.is("part", page < 7 ? 10000 * page + 1 : -1, hall.part(0, 0));
        }
    }

    private static void onTheLowestPage() {
        CHECKS.begin("stories, for it the first way: lower pages ahead");
        for (int first = 0; first < 7; first++) {
            String[] pages = new String[7];
            for (int page = 0; page < 7; page++) {
                pages[page] = "0 " + FIRST_FREE[page < first ? 1 : 2];
            }
            isLaid(laidOut(2, 0, 55, 2, pages), 10000 * first + 2, -1);
        }
    }

    private static void aPageWithoutAFreeCell() {
        CHECKS.begin("stories, pages that have no free cell");
        isLaid(laidOut(0, 0, 1, 1, "0 " + SHUT), -1, -1);
        isLaid(laidOut(1, 0, 1, 1, "0 " + SHUT, "0 ### ### ### ##."), 11101, -1);
        isLaid(laidOut(0, 0, 11, 1, "0 " + SHUT, "0 " + SHUT), -1, -1);
    }

    private static void downToTheLeastNumber() {
        CHECKS.begin("stories, n being all, then one fewer, and so on, down to the least number");
        for (int free = 0; free <= 6; free++) {
            for (int least = 1; least <= 6; least++) {
                int due = free >= least ? free : 0;
                isLaid(laidOut(due, 0, 555555, least, "0 " + FIRST_FREE[free]), due > 0 ? due : -1, -1);
            }
        }
    }

    private static void theFirstParagraphsStay() {
        CHECKS.begin("stories, with its first n paragraphs");
        isLaid(laidOut(2, 0, 551, 1, "0 " + FIRST_FREE[2]), 2, -1);
        isLaid(laidOut(2, 0, 195, 1, "0 " + FIRST_FREE[2]), 2, -1);
        isLaid(laidOut(0, 0, 911, 1, "0 " + FIRST_FREE[1]), -1, -1);
        isLaid(laidOut(2, 0, 149, 1, "0 " + FIRST_FREE[1]), 1, -1);
    }

    private static void inTwoPartsByFreeCells() {
        CHECKS.begin("stories, if there is none, in two parts; the greatest m is tried first, one page ahead of two");
        for (int ahead = 0; ahead <= 6; ahead++) {
            for (int behind = 0; behind <= 6; behind++) {
                int n = ahead == 0 ? 0 : Math.min(6, ahead + behind);
                int m = Math.min(ahead, n == ahead ? n : n - 1);
                for (int least = 1; least <= 6; least += 5) {
                    boolean isThere = n >= least;
                    isLaid(laidOut(isThere ? n : 0, 1, 555555, least, "1 " + FIRST_FREE[ahead],
                            "0 " + FIRST_FREE[behind]), isThere ? m : -1, isThere && m < n ? 10000 + n - m : -1);
                }
            }
        }
    }

    private static void theOtherPartIsBehind() {
        CHECKS.begin("stories, the others on a page of the section 0 that is behind that");
        isLaid(laidOut(0, 1, 55, 2, "0 " + OPEN, "1 " + FIRST_FREE[1]), -1, -1);
        isLaid(laidOut(2, 1, 55, 2, "1 " + FIRST_FREE[1], "0 " + FIRST_FREE[1]), 1, 10001);
        isLaid(laidOut(0, 0, 55, 2, "0 .## ### ### .##"), -1, -1);
        isLaid(laidOut(2, 0, 55, 2, "0 .## ### ### .##", "0 ### ### ### .##"), 1, 10901);
    }

    private static void theOtherPartIsOnSection0() {
        CHECKS.begin("stories, the others on a page of the section 0");
        for (int section = 0; section < 4; section++) {
            isLaid(laidOut(section == 0 ? 2 : 0, 1, 55, 2, "1 " + FIRST_FREE[1], section + " " + FIRST_FREE[1]),
                    section == 0 ? 1 : -1, section == 0 ? 10001 : -1);
        }
        isLaid(laidOut(2, 0, 55, 2, "0 " + FIRST_FREE[1], "0 " + FIRST_FREE[1]), 1, 10001);
        isLaid(laidOut(0, 2, 55, 2, "0 " + FIRST_FREE[1], "0 " + FIRST_FREE[1]), -1, -1);
    }

    private static void bothPartsOnPages0To6() {
        CHECKS.begin("stories, of the pages 0 to 6 both");
        for (int second = 1; second < 8; second++) {
            String[] pages = new String[7];
            for (int page = 0; page < 7; page++) {
                pages[page] = page == 0 ? "1 " + FIRST_FREE[1] : page == second ? "0 " + FIRST_FREE[1] : "0 " + SHUT;
            }
            // With the second page 7 there is none: it is of section 3 here, and of section 0 below.
            isLaid(laidOut(second < 7 ? 2 : 0, 1, 55, 2, pages), second < 7 ? 1 : -1,
                    second < 7 ? 10000 * second + 1 : -1);
        }
        for (int first = 0; first < 10; first++) {
            PressHall hall = new PressHall();
            for (int page = 0; page < 10; page++) {
                hall.page(page, page == first ? 1 : page > first && page > 6 ? 0 : 2, false);
            }
            hall.distance(0, 0);
            hall.place(hall.advert(0, 3, 3, false, 1, first < 7 ? -1 : first - 7));
            hall.story(1, 55, 2);
            CHECKS.is("lay with page " + first + " and those of zones behind it", 0, hall.lay(0));
        }
    }

    private static void theFirstPageIsAnyOf0To5() {
        CHECKS.begin("stories, the first part on a page of its section, the lowest one that has a page behind it");
        for (int first = 0; first < 6; first++) {
            String[] pages = new String[7];
            for (int page = 0; page < 7; page++) {
                pages[page] = page == first ? "1 ### ### ### ##." : page == 6 ? "0 ### #.# ### ###" : "0 " + SHUT;
            }
            isLaid(laidOut(2, 1, 55, 2, pages), 10000 * first + 1101, 60401);
        }
    }

    private static void theOrderOfWaysInTwoParts() {
        CHECKS.begin("stories, the greatest m first, for it the lowest first page, then the lowest second page");
        // A greater m on a higher page goes ahead of a lower page.
        isLaid(laidOut(3, 1, 555, 3, "1 " + FIRST_FREE[1], "1 " + FIRST_FREE[2], "0 " + FIRST_FREE[2]), 10002, 20001);
        // For the same m the lowest first page, whatever the second one.
        isLaid(laidOut(3, 1, 555, 3, "1 " + FIRST_FREE[2], "1 " + FIRST_FREE[2], "0 " + SHUT, "0 " + FIRST_FREE[1]),
                2, 30001);
        // The first page has none behind it that is as large as needed, the second one has neither: m is smaller.
        isLaid(laidOut(4, 1, 5555, 4, "1 " + FIRST_FREE[3], "1 " + FIRST_FREE[2], "0 " + SHUT, "0 " + FIRST_FREE[2]),
                3, 30001);
        isLaid(laidOut(4, 0, 5555, 4, "0 " + FIRST_FREE[1], "0 " + FIRST_FREE[3], "0 " + FIRST_FREE[0]), 1, 10003);
        // The lowest second page of those that have room.
        isLaid(laidOut(4, 1, 5555, 4, "1 " + FIRST_FREE[2], "0 " + FIRST_FREE[1], "0 " + FIRST_FREE[2],
                "0 " + FIRST_FREE[2]), 2, 20002);
    }

    private static void whateverPlatesItTouches() {
        CHECKS.begin("stories, for it the first way: to lay a story out no plates are counted");
        isLaid(laidOut(2, 1, 55, 2, "1 " + FIRST_FREE[1], "2 " + SHUT, "1 " + FIRST_FREE[1], "0 " + FIRST_FREE[1]),
                1, 30001);
        isLaid(laidOut(3, 1, 555, 3, "1 " + FIRST_FREE[1], "0 " + FIRST_FREE[2], "1 " + FIRST_FREE[2], "2 " + SHUT,
                "0 " + FIRST_FREE[1]), 20002, 40001);
    }

    private static void onePageAheadOfTwo() {
        CHECKS.begin("stories, one page ahead of two, lower ones ahead");
        isLaid(laidOut(2, 0, 55, 2, "0 " + FIRST_FREE[1], "0 " + FIRST_FREE[1], "0 " + SHUT, "0 " + SHUT, "0 " + SHUT,
                "0 " + SHUT, "0 " + FIRST_FREE[2]), 60002, -1);
    }

    private static void moreParagraphsAheadOfOnePage() {
        CHECKS.begin("stories, the first n for which there is a way, in two parts too");
        isLaid(laidOut(3, 0, 555, 1, "0 " + FIRST_FREE[2], "0 " + FIRST_FREE[1]), 2, 10001);
        isLaid(laidOut(3, 0, 555, 1, "0 " + FIRST_FREE[1], "0 " + FIRST_FREE[2]), 1, 10002);
        isLaid(laidOut(2, 0, 555, 1, "0 " + FIRST_FREE[1], "1 " + FIRST_FREE[2], "0 " + FIRST_FREE[1]), 1, 20001);
        isLaid(laidOut(2, 0, 555, 1, "0 " + SHUT, "0 " + FIRST_FREE[2]), 10002, -1);
        isLaid(laidOut(2, 0, 555, 2, "0 " + FIRST_FREE[1], "0 " + FIRST_FREE[1]), 1, 10001);
        isLaid(laidOut(0, 0, 555, 3, "0 " + FIRST_FREE[1], "0 " + FIRST_FREE[1]), -1, -1);
    }

    private static void oneParagraphHasNoSecondPart() {
        CHECKS.begin("stories, in two parts: the first m paragraphs, the others; each has one");
        isLaid(laidOut(0, 0, 9, 1, "0 " + FIRST_FREE[1], "0 " + FIRST_FREE[1]), -1, -1);
        isLaid(laidOut(1, 0, 9, 1, "0 " + FIRST_FREE[1], "0 " + FIRST_FREE[2]), 10002, -1);
        isLaid(laidOut(2, 0, 91, 1, "0 " + FIRST_FREE[2], "0 " + FIRST_FREE[2]), 2, -1);
        isLaid(laidOut(2, 0, 96, 1, "0 " + FIRST_FREE[2], "0 " + FIRST_FREE[2]), 2, 10002);
    }

    private static void layOfOneThatIsThere() {
        CHECKS.begin("promise 11, if there is no such story");
        BUSY.refuseOutside("lay", Checks.INDEX, 0, 5, PressHall::lay);
        FULL.refuseOutside("lay", Checks.INDEX, 0, 19, PressHall::lay);
    }

    private static void layOfOneThatIsLaidOut() {
        CHECKS.begin("promise 11, if it is laid out");
        for (int i = 0; i < 3; i++) {
            int story = i;
            BUSY.refuse("lay(" + i + ")", Checks.STATE, hall -> hall.lay(story));
        }
        FULL.refuse("lay, in two parts", Checks.STATE, hall -> hall.lay(twoParts(hall)));
    }

    /** A story that lies in two parts; 0 if there is none. */
    private static int twoParts(PressHall hall) {
        for (int story = 0; story < 20; story++) {
            if (hall.part(story, 1) != -1) {
                return story;
            }
        }
        return 0;
    }

    private static void layWithoutAWay() {
        CHECKS.begin("promise 11, 0 if there is no way, and then nothing happens");
        BUSY.keep("lay, no page being of its section", 0, hall -> hall.lay(4));
        Twins oneShort = new Twins(CHECKS, () -> {
            PressHall hall = Halls.drawn("0 " + FIRST_FREE[2], "1 " + FIRST_FREE[1], "0 " + FIRST_FREE[1]);
            hall.story(1, 555, 3);
            hall.story(0, 5555, 4);
            Halls.closeSigned(hall);
            return hall;
        });
        oneShort.keep("lay, a cell too few for two parts", 0, hall -> hall.lay(4));
        oneShort.keep("lay, a cell too few for two parts", 0, hall -> hall.lay(5));
    }

    // ---- promise 12

    private static void liftOfOneThatIsThere() {
        CHECKS.begin("promise 12, if there is no such story");
        BUSY.refuseOutside("lift", Checks.INDEX, 0, 5, PressHall::lift);
        FULL.refuseOutside("lift", Checks.INDEX, 0, 19, PressHall::lift);
    }

    private static void liftOfOneThatIsNotLaidOut() {
        CHECKS.begin("promise 12, if it is not laid out");
        BUSY.refuse("lift, lifted", Checks.STATE, hall -> hall.lift(3));
        BUSY.refuse("lift, never laid out", Checks.STATE, hall -> hall.lift(5));
        FULL.refuse("lift, lifted", Checks.STATE, hall -> hall.lift(19));
        PressHall hall = Halls.busy();
        CHECKS.is("lay without a way", 0, hall.lay(4));
        CHECKS.throwsIt("lift, without a way", Checks.STATE, () -> hall.lift(4));
    }

    private static void liftAnswersHowManyItHad() {
        CHECKS.begin("promise 12, how many paragraphs it had");
        for (int ahead = 1; ahead <= 6; ahead++) {
            for (int behind = 0; behind <= 1; behind++) {
                int n = Math.min(6, ahead + behind);
                PressHall hall = laidOut(n, 1, 555555, 1, "1 " + FIRST_FREE[ahead], "0 " + FIRST_FREE[behind]);
                CHECKS.is("lift", n, hall.lift(4));
                isLaid(hall, -1, -1);
                CHECKS.isTrue("the cells are free again",
                        Halls.isDrawn(hall, "1 " + FIRST_FREE[ahead], "0 " + FIRST_FREE[behind]));
                CHECKS.is("lay again", n, hall.lay(4));
            }
        }
    }

    private static void liftChangesItsCellsAlone() {
        CHECKS.begin("promise 12, the pages of both parts change, no other");
        PressHall hall = laidOut(2, 1, 55, 2, "3 " + OPEN, "3 " + OPEN, "1 .## ### ### ###", "0 ### ### ### ###",
                "0 ### ### ### ##.");
        isLaid(hall, 20001, 41101);
        Halls.closeSigned(hall);
        CHECKS.is("lift", 2, hall.lift(4));
        CHECKS.is("touched", 6, hall.touched());
        for (int page = 0; page < 10; page++) {
            CHECKS.is("isReady(" + page + ")", page != 2 && page != 4, hall.isReady(page));
        }
    }

    // ---- promise 14

    private static void partOfOneThatIsThere() {
        CHECKS.begin("promise 14, if there is no such story");
        BUSY.refuseOutside("story", Checks.INDEX, 0, 5, (hall, story) -> hall.part(story, 0));
        FULL.refuseOutside("story", Checks.INDEX, 0, 19, (hall, story) -> hall.part(story, 1));
    }

    private static void part0Or1() {
        CHECKS.begin("promise 14, part: 0 or 1");
        BUSY.refuseOutside("part", Checks.ARGUMENT, 0, 1, (hall, part) -> hall.part(0, part));
        BUSY.refuseOutside("part of one that is not laid out", Checks.ARGUMENT, 0, 1,
                (hall, part) -> hall.part(4, part));
    }

    private static void exceptionsOfPartInOrder() {
        CHECKS.begin("promise 14, IndexOutOfBoundsException before IllegalArgumentException");
        BUSY.refuse("story 6, part 2", Checks.INDEX, hall -> hall.part(6, 2));
        BUSY.refuse("story -1, part -1", Checks.INDEX, hall -> hall.part(-1, -1));
    }

    private static void partOfEachCell() {
        CHECKS.begin("promise 14, 10000 * the page + 100 * its first cell, told as the cell, + how many cells");
        for (int cell = 0; cell < 12; cell++) {
            String[] pages = new String[7];
            for (int page = 0; page < 7; page++) {
                char[] signs = ("0 " + SHUT).toCharArray();
                signs[2 + 4 * (cell / 3) + cell % 3] = page == cell % 7 ? '.' : '#';
                pages[page] = new String(signs);
            }
            isLaid(laidOut(1, 0, 1, 1, pages), 10000 * (cell % 7) + 100 * cell + 1, -1);
        }
    }

    private static void partThatIsNotThere() {
        CHECKS.begin("promise 14, -1 if it has no such part");
        BUSY.keep("part 1 of a story on one page", -1, hall -> hall.part(0, 1));
        BUSY.keep("part 0, never laid out", -1, hall -> hall.part(4, 0));
        BUSY.keep("part 1, never laid out", -1, hall -> hall.part(4, 1));
        BUSY.keep("part 0, lifted", -1, hall -> hall.part(3, 0));
        PressHall hall = laidOut(2, 0, 55, 2, "0 " + FIRST_FREE[1], "0 " + FIRST_FREE[1]);
        hall.lift(4);
        isLaid(hall, -1, -1);
        hall.clean(0);
        CHECKS.is("lay on one page after two", 2, hall.lay(4));
        isLaid(hall, 2, -1);
    }

    private static void storiesOnOnePage() {
        argumentsOfStory();
        sectionsOfStory();
        oneToSixDigits();
        noDigitIs0();
        twentyStories();
        exceptionsOfStoryInOrder();
        aCellTakes5Lines();
        theLinesOfAPartCountTogether();
        columnsAreJoinedFromBottomToTop();
        rowsAreNotJoined();
        inTheFirstSuchCells();
        oneCellTooFew();
        onPages0To6OfItsSection();
        onTheLowestPage();
        aPageWithoutAFreeCell();
        downToTheLeastNumber();
        theFirstParagraphsStay();
    }

    public static void main(String[] args) {
        storiesOnOnePage();
        inTwoPartsByFreeCells();
        theOtherPartIsBehind();
        theOtherPartIsOnSection0();
        bothPartsOnPages0To6();
        theFirstPageIsAnyOf0To5();
        theOrderOfWaysInTwoParts();
        whateverPlatesItTouches();
        onePageAheadOfTwo();
        moreParagraphsAheadOfOnePage();
        oneParagraphHasNoSecondPart();
        layOfOneThatIsThere();
        layOfOneThatIsLaidOut();
        layWithoutAWay();
        liftOfOneThatIsThere();
        liftOfOneThatIsNotLaidOut();
        liftAnswersHowManyItHad();
        liftChangesItsCellsAlone();
        partOfOneThatIsThere();
        part0Or1();
        exceptionsOfPartInOrder();
        partOfEachCell();
        partThatIsNotThere();
        CHECKS.end();
    }
}
