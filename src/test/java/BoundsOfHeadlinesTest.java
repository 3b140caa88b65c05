/** The sentences of the document that name a boundary: headlines and pictures (promises 27 to 31). */
public final class BoundsOfHeadlinesTest {
    private static final Checks CHECKS = new Checks();
    private static final Twins BUSY = new Twins(CHECKS, Halls::busy);
    private static final Twins FULL = new Twins(CHECKS, Halls::full);

    private BoundsOfHeadlinesTest() {
    }

    /** A hall with a headline: the long and the short width of each word. */
    private static PressHall withWords(int... widths) {
        PressHall hall = new PressHall();
        for (int i = 0; i + 1 < widths.length; i += 2) {
            hall.word(widths[i], widths[i + 1]);
        }
        return hall;
    }

    /** A hall with a picture of these rows. */
    private static PressHall withPicture(int... rows) {
        PressHall hall = new PressHall();
        for (int row = 0; row < rows.length; row++) {
            hall.weigh(row, rows[row]);
        }
        return hall;
    }

    // ---- promise 27

    private static void argumentsOfWord() {
        CHECKS.begin("promise 27, width: 1 to 20, narrow: 1 to width");
        for (int width = 1; width <= 20; width++) {
            int itsWidth = width;
            for (int narrow = 1; narrow <= width; narrow++) {
                PressHall hall = new PressHall();
                CHECKS.is("word", 1, hall.word(width, narrow));
                CHECKS.is("fit of the long form", 100 * width + 1, hall.fit(width));
                CHECKS.is("fit of the short form", narrow < width ? 100 * narrow : -1, hall.fit(width - 1));
                CHECKS.is("fit of neither", -1, hall.fit(narrow - 1));
            }
            BUSY.refuseOutside("narrow of " + width, Checks.ARGUMENT, 1, width,
                    (hall, narrow) -> hall.word(itsWidth, narrow));
        }
        BUSY.refuseOutside("width", Checks.ARGUMENT, 1, 20, (hall, width) -> hall.word(width, 1));
        BUSY.refuseOutside("width and narrow", Checks.ARGUMENT, 1, 20, (hall, width) -> hall.word(width, width));
    }

    private static void fiveWords() {
        CHECKS.begin("promise 27, if it has 5");
        PressHall hall = new PressHall();
        for (int words = 1; words <= 5; words++) {
            CHECKS.is("word", words, hall.word(2, 1));
        }
        CHECKS.throwsIt("word, 5 being there", Checks.STATE, () -> hall.word(2, 1));
        CHECKS.throwsIt("word, 5 being there", Checks.STATE, () -> hall.word(2, 1));
        FULL.refuse("word, 5 being there", Checks.STATE, other -> other.word(20, 1));
        hall.dropWords();
        for (int words = 1; words <= 5; words++) {
            CHECKS.is("word, the others being dropped", words, hall.word(3, 3));
        }
        CHECKS.throwsIt("word, 5 being there again", Checks.STATE, () -> hall.word(3, 3));
        CHECKS.is("fit", 1931, hall.fit(200));
    }

    private static void exceptionsOfWordInOrder() {
        CHECKS.begin("promise 27, IllegalArgumentException before IllegalStateException, 5 being there");
        FULL.refuse("width 0", Checks.ARGUMENT, hall -> hall.word(0, 1));
        FULL.refuse("width 21", Checks.ARGUMENT, hall -> hall.word(21, 1));
        FULL.refuse("narrow 0", Checks.ARGUMENT, hall -> hall.word(3, 0));
        FULL.refuse("narrow 4 of 3", Checks.ARGUMENT, hall -> hall.word(3, 4));
    }

    // ---- promise 28

    private static void fitInto0To200() {
        CHECKS.begin("promise 28, width: 0 to 200");
        PressHall hall = withWords(20, 20, 20, 20, 20, 20, 20, 20, 20, 20);
        for (int width = 0; width <= 200; width++) {
            CHECKS.is("fit(" + width + ")", width >= 104 ? 10431 : -1, hall.fit(width));
        }
        BUSY.refuseOutside("width", Checks.ARGUMENT, 0, 200, PressHall::fit);
        Twins fresh = new Twins(CHECKS, PressHall::new);
        fresh.refuseOutside("width, without words", Checks.ARGUMENT, 0, 200, PressHall::fit);
    }

    private static void fitWithoutWords() {
        CHECKS.begin("promise 28, 0 without words");
        PressHall hall = new PressHall();
        for (int width = 0; width <= 200; width++) {
            CHECKS.is("fit(" + width + ")", 0, hall.fit(width));
        }
        hall.word(1, 1);
        CHECKS.is("fit(0) with a word", -1, hall.fit(0));
        hall.dropWords();
        CHECKS.is("fit(0), all being dropped", 0, hall.fit(0));
    }

    private static void itDoesNotFit() {
        CHECKS.begin("promise 28, -1 if it does not fit");
        for (int words = 1; words <= 5; words++) {
            PressHall hall = new PressHall();
            for (int i = 0; i < words; i++) {
                hall.word(20, 3);
            }
            int least = 4 * words - 1;
            CHECKS.is("fit of " + words + " words, one too narrow", -1, hall.fit(least - 1));
            CHECKS.is("fit of " + words + " words, just wide enough", 100 * least, hall.fit(least));
        }
        BUSY.keep("fit(15), a call that only asks", -1, hall -> hall.fit(15));
        BUSY.keep("fit(16), a call that only asks", 1602, hall -> hall.fit(16));
    }

    private static void aWidthOf1BetweenTwoWords() {
        CHECKS.begin("headlines, with a width of 1 between two words, none before or behind them");
        PressHall hall = new PressHall();
        for (int words = 1; words <= 5; words++) {
            hall.word(1, 1);
            CHECKS.is("fit of " + words + " words", 100 * (2 * words - 1) + (1 << words) - 1, hall.fit(200));
            CHECKS.is("fit, one too narrow", -1, hall.fit(2 * words - 2));
        }
    }

    private static void theGreatestWidthThatIsNotTooGreat() {
        CHECKS.begin("headlines, the greatest width in all that is not too great");
        // The words are longer by 1, 2, 4, 8 and 16: so each set of long forms has a width of its own.
        PressHall hall = withWords(2, 1, 3, 1, 5, 1, 9, 1, 17, 1);
        for (int width = 0; width <= 45; width++) {
            int set = Math.min(width - 9, 31);
            CHECKS.is("fit(" + width + ")", set < 0 ? -1 : 100 * (9 + set) + set, hall.fit(width));
        }
        PressHall wide = withWords(20, 1, 20, 2);
        CHECKS.is("fit, neither long", 400, wide.fit(21));
        CHECKS.is("fit, the second one long is narrower than the first one", 2202, wide.fit(22));
        CHECKS.is("fit, the first one long", 2301, wide.fit(23));
        CHECKS.is("fit, not both long", 2301, wide.fit(40));
        CHECKS.is("fit, both long", 4103, wide.fit(41));
    }

    private static void isFit(PressHall hall, int... widthsAndDue) {
        for (int i = 0; i < widthsAndDue.length; i += 2) {
            CHECKS.is("fit(" + widthsAndDue[i] + ")", widthsAndDue[i + 1], hall.fit(widthsAndDue[i]));
        }
    }

    private static void theLongFormAtTheFirstWord() {
        CHECKS.begin("headlines, of several ways the one with the long form at the first word in which they differ");
        // Each long form adds 1: k of them are the first k.
        PressHall hall = withWords(2, 1, 2, 1, 2, 1, 2, 1, 2, 1);
        for (int longs = 0; longs <= 5; longs++) {
            CHECKS.is("fit with " + longs + " long", 100 * (9 + longs) + (1 << longs) - 1, hall.fit(9 + longs));
        }
        // The long forms add 2, 2 and 4.
        isFit(withWords(5, 3, 5, 3, 7, 3), 11, 1100, 13, 1301, 15, 1503, 17, 1705, 19, 1907);
        // The long forms add 8, 1, 1 and 2.
        isFit(withWords(9, 1, 5, 4, 5, 4, 6, 4), 17, 1702, 18, 1806, 19, 1910, 24, 2401, 26, 2607);
        // The long forms add 1, 2, 2 and 3.
        isFit(withWords(3, 2, 4, 2, 4, 2, 5, 2), 13, 1302, 14, 1403, 15, 1509, 16, 1607, 17, 1711, 18, 1814);
        for (int words = 1; words <= 5; words++) {
            PressHall same = new PressHall();
            for (int i = 0; i < words; i++) {
                same.word(4, 4);
            }
            CHECKS.is("fit, both forms being as wide", 100 * (5 * words - 1) + (1 << words) - 1, same.fit(200));
        }
    }

    // ---- promise 29

    private static void dropWordsOf0To5() {
        CHECKS.begin("promise 29, how many it had");
        for (int words = 0; words <= 5; words++) {
            PressHall hall = new PressHall();
            for (int i = 0; i < words; i++) {
                hall.word(9, 9);
            }
            CHECKS.is("dropWords", words, hall.dropWords());
            CHECKS.is("dropWords again", 0, hall.dropWords());
            CHECKS.is("fit without words", 0, hall.fit(0));
            CHECKS.is("word", 1, hall.word(7, 2));
            CHECKS.is("fit of it alone", 701, hall.fit(200));
        }
        CHECKS.is("dropWords", 3, Halls.busy().dropWords());
        CHECKS.is("dropWords, full", 5, Halls.full().dropWords());
        new Twins(CHECKS, PressHall::new).keep("dropWords, none being there", 0, PressHall::dropWords);
    }

    // ---- promise 30

    private static void argumentsOfWeigh() {
        CHECKS.begin("promise 30, row: 0 to 5, weights: 0 to 999999");
        PressHall hall = new PressHall();
        for (int row = 0; row < 6; row++) {
            CHECKS.is("weigh, 0 at first", 0, hall.weigh(row, 999994 + row));
        }
        for (int row = 0; row < 6; row++) {
            CHECKS.is("weigh, the digits before", 999994 + row, hall.weigh(row, row));
        }
        for (int row = 0; row < 6; row++) {
            CHECKS.is("weigh, the digits before", row, hall.weigh(row, 0));
        }
        BUSY.refuseOutside("row", Checks.ARGUMENT, 0, 5, (other, row) -> other.weigh(row, 111111));
        BUSY.refuseOutside("weights", Checks.ARGUMENT, 0, 999999, (other, weights) -> other.weigh(2, weights));
    }

    private static void sixDigitsTheFirstOneFirst() {
        CHECKS.begin("promise 30, six digits, the first one first");
        int[] places = {100000, 10000, 1000, 100, 10, 1};
        for (int row = 0; row < 6; row++) {
            for (int column = 0; column < 6; column++) {
                for (int weight = 1; weight <= 9; weight += 4) {
                    PressHall hall = new PressHall();
                    hall.weigh(row, weight * places[column]);
                    CHECKS.is("crop to one weight", 100 * weight + 10 * row + column, hall.crop(1, 1));
                }
            }
        }
    }

    // ---- promise 31

    private static void argumentsOfCrop() {
        CHECKS.begin("promise 31, width: 1 to 6, height: 1 to 6");
        PressHall hall = withPicture(999999, 999999, 999999, 999999, 999999, 999999);
        for (int width = 1; width <= 6; width++) {
            for (int height = 1; height <= 6; height++) {
                CHECKS.is("crop(" + width + ", " + height + ")", 900 * width * height, hall.crop(width, height));
                CHECKS.is("crop without weights", 0, new PressHall().crop(width, height));
            }
        }
        BUSY.refuseOutside("width", Checks.ARGUMENT, 1, 6, (other, width) -> other.crop(width, 1));
        BUSY.refuseOutside("height", Checks.ARGUMENT, 1, 6, (other, height) -> other.crop(1, height));
        BUSY.keep("crop, a call that only asks", 5420, other -> other.crop(6, 1));
    }

    /** The part reaches to the last row and column, and to no other one. */
    private static void thePartsAtTheEdges() {
        CHECKS.begin("promise 31, parts at the edges of the picture");
        for (int width = 1; width <= 6; width++) {
            for (int height = 1; height <= 6; height++) {
                int lastColumn = 6 - width;
                int lastRow = 6 - height;
                PressHall corner = withPicture(0, 0, 0, 0, 0, 7);
                CHECKS.is("crop to the last corner", 700 + 10 * lastRow + lastColumn, corner.crop(width, height));
                PressHall first = withPicture(700000);
                CHECKS.is("crop to the first corner", 700, first.crop(width, height));
                PressHall both = withPicture(800000, 0, 0, 0, 0, 7);
                CHECKS.is("crop to one corner, or to both", width == 6 && height == 6 ? 1500 : 800,
                        both.crop(width, height));
                PressHall other = withPicture(7, 0, 0, 0, 0, 800000);
                CHECKS.is("crop to one corner, or to both", width == 6 && height == 6 ? 1500 : 800 + 10 * lastRow,
                        other.crop(width, height));
            }
        }
    }

    private static void ofSeveralTheHighestThenTheLeftmost() {
        CHECKS.begin("promise 31, of several the highest one, then the leftmost one");
        CHECKS.is("crop, the highest one, though further right", 505, withPicture(5, 500000).crop(1, 1));
        CHECKS.is("crop, the leftmost one", 501, withPicture(50505).crop(1, 1));
        CHECKS.is("crop, the greatest one", 613, withPicture(555555, 555655, 555555).crop(1, 1));
        CHECKS.is("crop, the greatest one, the lowest", 655, withPicture(5, 5, 5, 5, 5, 6).crop(1, 1));
        CHECKS.is("crop of 2 by 2", 511, withPicture(101010, 20202, 103010).crop(2, 2));
    }

    public static void main(String[] args) {
        argumentsOfWord();
        fiveWords();
        exceptionsOfWordInOrder();
        fitInto0To200();
        fitWithoutWords();
        itDoesNotFit();
        aWidthOf1BetweenTwoWords();
        theGreatestWidthThatIsNotTooGreat();
        theLongFormAtTheFirstWord();
        dropWordsOf0To5();
        argumentsOfWeigh();
        sixDigitsTheFirstOneFirst();
        argumentsOfCrop();
        thePartsAtTheEdges();
        ofSeveralTheHighestThenTheLeftmost();
        CHECKS.end();
    }
}
