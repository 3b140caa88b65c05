/** Promises 27 to 35: headlines, pictures, the wire and puzzles. */
public final class RestTest {
    private static final Checks CHECKS = new Checks();

    private RestTest() {
    }

    private static long numbers(PressHall hall, int row, int numbers) {
        hall.numbers(row, numbers);
        return 0;
    }

    private static void word() {
        CHECKS.begin("promise 27");
        PressHall hall = new PressHall();
        CHECKS.throwsIt("width 0", Checks.ARGUMENT, () -> hall.word(0, 0));
        CHECKS.throwsIt("width 21", Checks.ARGUMENT, () -> hall.word(21, 1));
        CHECKS.throwsIt("narrow 0", Checks.ARGUMENT, () -> hall.word(5, 0));
        CHECKS.throwsIt("narrow 6", Checks.ARGUMENT, () -> hall.word(5, 6));
        CHECKS.is("word, all least", 1, hall.word(1, 1));
        CHECKS.is("word, all greatest", 2, hall.word(20, 20));
        CHECKS.is("word", 3, hall.word(20, 1));
        CHECKS.is("word", 4, hall.word(20, 20));
        CHECKS.is("word", 5, hall.word(20, 20));
        CHECKS.throwsIt("word 6", Checks.STATE, () -> hall.word(1, 1));
        CHECKS.throwsIt("word 6, width 0", Checks.ARGUMENT, () -> hall.word(0, 1));
        CHECKS.is("fit", 8531, hall.fit(200));
    }

    private static void fit() {
        CHECKS.begin("promise 28");
        PressHall hall = new PressHall();
        CHECKS.is("fit without words", 0, hall.fit(0));
        CHECKS.is("fit without words", 0, hall.fit(200));
        hall.word(5, 3);
        CHECKS.is("fit of its long form", 501, hall.fit(5));
        CHECKS.is("fit of its short form", 300, hall.fit(4));
        CHECKS.is("fit, too narrow", -1, hall.fit(2));
        hall.word(6, 4);
        hall.word(7, 5);
        // One of the three words is long: of several ways the one with the first word long.
        CHECKS.is("fit, one of three long", 1601, hall.fit(16));
        CHECKS.is("fit, two of three long", 1803, hall.fit(18));
        CHECKS.is("fit, all long", 2007, hall.fit(20));
        CHECKS.is("fit, none long", 1400, hall.fit(15));
        CHECKS.is("fit, not at all", -1, hall.fit(13));
        hall.dropWords();
        hall.word(4, 3);
        hall.word(8, 6);
        hall.word(4, 3);
        CHECKS.is("fit, the words 0 and 2 as wide as the word 1", 1605, hall.fit(16));
        hall.word(7, 7);
        CHECKS.is("fit, a word with forms of one width is long", 2615, hall.fit(26));
        CHECKS.throwsIt("width -1", Checks.ARGUMENT, () -> hall.fit(-1));
        CHECKS.throwsIt("width 201", Checks.ARGUMENT, () -> hall.fit(201));
    }

    private static void dropWords() {
        CHECKS.begin("promise 29");
        PressHall hall = new PressHall();
        CHECKS.is("dropWords, none", 0, hall.dropWords());
        for (int i = 0; i < 5; i++) {
            hall.word(9, 2);
        }
        CHECKS.is("dropWords", 5, hall.dropWords());
        CHECKS.is("dropWords again", 0, hall.dropWords());
        CHECKS.is("word", 1, hall.word(3, 3));
        CHECKS.is("fit", 301, hall.fit(9));
    }

    private static void weigh() {
        CHECKS.begin("promise 30");
        PressHall hall = new PressHall();
        CHECKS.is("weigh", 0, hall.weigh(0, 999999));
        CHECKS.is("weigh", 999999, hall.weigh(0, 12));
        CHECKS.is("weigh, another row", 0, hall.weigh(5, 7));
        CHECKS.throwsIt("row 6", Checks.ARGUMENT, () -> hall.weigh(6, 0));
        CHECKS.throwsIt("row -1", Checks.ARGUMENT, () -> hall.weigh(-1, 0));
        CHECKS.throwsIt("weights 1000000", Checks.ARGUMENT, () -> hall.weigh(0, 1000000));
        CHECKS.throwsIt("weights -1", Checks.ARGUMENT, () -> hall.weigh(0, -1));
        CHECKS.is("weigh", 12, hall.weigh(0, 0));
    }

    private static void crop() {
        CHECKS.begin("promise 31");
        PressHall hall = new PressHall();
        CHECKS.is("crop, no weights", 0, hall.crop(1, 1));
        hall.weigh(1, 5);
        CHECKS.is("crop to the last column", 515, hall.crop(1, 1));
        CHECKS.is("crop, the highest one, then the leftmost one", 504, hall.crop(2, 2));
        hall.weigh(3, 500000);
        CHECKS.is("crop, the highest one", 515, hall.crop(1, 1));
        hall.weigh(1, 50005);
        CHECKS.is("crop, the leftmost one", 511, hall.crop(1, 1));
        CHECKS.is("crop, wide", 1010, hall.crop(6, 1));
        CHECKS.is("crop, high, in the third row of the part", 501, hall.crop(1, 3));
        CHECKS.is("crop, high, of two rows", 1010, hall.crop(2, 3));
        for (int row = 0; row < 6; row++) {
            hall.weigh(row, 999999);
        }
        CHECKS.is("crop of all", 32400, hall.crop(6, 6));
        CHECKS.throwsIt("width 0", Checks.ARGUMENT, () -> hall.crop(0, 1));
        CHECKS.throwsIt("width 7", Checks.ARGUMENT, () -> hall.crop(7, 1));
        CHECKS.throwsIt("height 0", Checks.ARGUMENT, () -> hall.crop(1, 0));
        CHECKS.throwsIt("height 7", Checks.ARGUMENT, () -> hall.crop(1, 7));
    }

    private static void wire() {
        CHECKS.begin("promise 32");
        PressHall hall = new PressHall();
        CHECKS.is("wire", 0, hall.wire(0b111, 4));
        CHECKS.is("wire, 3 of 6 in both", 0, hall.wire(0b111111, 2));
        CHECKS.is("wire, 3 of 7 in both", 1, hall.wire(0b1000111, 3));
        CHECKS.is("wire, 2 of 2 in both", 2, hall.wire(0b11 << 14, 3));
        CHECKS.is("wire, 2 of 2 in both", 3, hall.wire(0b11 << 14, 9));
        // It is alike to the texts 0 and 1; merged with the first one, that is not compared again.
        CHECKS.is("wire, alike to two", 0, hall.wire(0b1111111, 5));
        CHECKS.is("take, the greatest priority", 0b11 << 14, hall.take());
        CHECKS.is("take, the words of both, the greater priority", 0b1111111, hall.take());
        CHECKS.is("take, the first one", 0b1000111, hall.take());
        for (int i = 1; i < 12; i++) {
            CHECKS.is("wire, without words", i, hall.wire(0, 0));
        }
        CHECKS.throwsIt("wire, 12 wait", Checks.STATE, () -> hall.wire(7, 0));
        CHECKS.throwsIt("wire, 12 wait, words 65536", Checks.ARGUMENT, () -> hall.wire(65536, 0));
        CHECKS.throwsIt("words -1", Checks.ARGUMENT, () -> hall.wire(-1, 0));
        CHECKS.throwsIt("priority 10", Checks.ARGUMENT, () -> hall.wire(7, 10));
        CHECKS.throwsIt("priority -1", Checks.ARGUMENT, () -> hall.wire(7, -1));
        hall.take();
        hall.wire(65535, 0);
        CHECKS.is("wire, alike while 12 wait", 11, hall.wire(255, 9));
        CHECKS.is("take", 65535, hall.take());
    }

    private static void take() {
        CHECKS.begin("promise 33");
        PressHall hall = new PressHall();
        CHECKS.throwsIt("take, none waits", Checks.STATE, hall::take);
        hall.wire(1, 0);
        hall.wire(2, 9);
        hall.wire(4, 9);
        hall.wire(8, 1);
        CHECKS.is("take", 2, hall.take());
        CHECKS.is("take", 4, hall.take());
        CHECKS.is("wire, in the place behind those that wait", 2, hall.wire(16, 1));
        CHECKS.is("take", 8, hall.take());
        CHECKS.is("take", 16, hall.take());
        CHECKS.is("take", 1, hall.take());
        CHECKS.throwsIt("take, none waits any more", Checks.STATE, hall::take);
    }

    private static void numbers() {
        CHECKS.begin("promise 34");
        PressHall hall = new PressHall();
        CHECKS.throwsIt("row 4", Checks.ARGUMENT, () -> numbers(hall, 4, 0));
        CHECKS.throwsIt("row -1", Checks.ARGUMENT, () -> numbers(hall, -1, 0));
        CHECKS.throwsIt("numbers -1", Checks.ARGUMENT, () -> numbers(hall, 0, -1));
        CHECKS.throwsIt("numbers 5", Checks.ARGUMENT, () -> numbers(hall, 0, 5));
        CHECKS.throwsIt("numbers 1500", Checks.ARGUMENT, () -> numbers(hall, 0, 1500));
        CHECKS.throwsIt("numbers 5000", Checks.ARGUMENT, () -> numbers(hall, 0, 5000));
        CHECKS.throwsIt("numbers 10000", Checks.ARGUMENT, () -> numbers(hall, 0, 10000));
        CHECKS.is("solutions, nothing set", 288, hall.solutions());
        hall.numbers(0, 4444);
        CHECKS.is("solutions, greatest digits", 0, hall.solutions());
        hall.numbers(0, 4321);
        CHECKS.is("solutions, row set again", 12, hall.solutions());
        hall.numbers(3, 4);
        CHECKS.is("solutions, the digit in the last column", 3, hall.solutions());
        hall.numbers(0, 0);
        CHECKS.is("solutions, row taken out", 72, hall.solutions());
    }

    private static void solutions() {
        CHECKS.begin("promise 35");
        PressHall hall = new PressHall();
        hall.numbers(0, 1000);
        CHECKS.is("solutions, one number", 72, hall.solutions());
        hall.numbers(1, 1000);
        CHECKS.is("solutions, twice in a column", 0, hall.solutions());
        hall.numbers(1, 100);
        CHECKS.is("solutions, twice in a quarter", 0, hall.solutions());
        hall.numbers(1, 0);
        hall.numbers(0, 1001);
        CHECKS.is("solutions, twice in a row", 0, hall.solutions());
        hall.numbers(0, 1234);
        hall.numbers(1, 3412);
        hall.numbers(2, 2143);
        hall.numbers(3, 4321);
        CHECKS.is("solutions, all set", 1, hall.solutions());
        hall.numbers(3, 4312);
        CHECKS.is("solutions, all set and wrong", 0, hall.solutions());
        hall.numbers(3, 0);
        CHECKS.is("solutions, one row open", 1, hall.solutions());
        CHECKS.is("solutions again", 1, hall.solutions());
    }

    public static void main(String[] args) {
        word();
        fit();
        dropWords();
        weigh();
        crop();
        wire();
        take();
        numbers();
        solutions();
        CHECKS.end();
    }
}
