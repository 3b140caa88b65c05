/** The sentences of the document that name a boundary: the wire and puzzles (promises 32 to 35). */
public final class BoundsOfWireTest {
    private static final Checks CHECKS = new Checks();
    private static final Twins FRESH = new Twins(CHECKS, PressHall::new);
    private static final Twins BUSY = new Twins(CHECKS, Halls::busy);
    private static final Twins FULL = new Twins(CHECKS, Halls::full);

    private BoundsOfWireTest() {
    }

    private static long numbers(PressHall hall, int row, int numbers) {
        hall.numbers(row, numbers);
        return 0;
    }

    /** A hall where 12 texts wait: words 0b111 << i, of the priority i % 10. */
    private static PressHall withTwelve() {
        PressHall hall = new PressHall();
        for (int i = 0; i < 12; i++) {
            hall.wire(0b111 << i, i % 10);
        }
        return hall;
    }

    /** A hall with a puzzle of these four rows. */
    private static PressHall withPuzzle(int... rows) {
        PressHall hall = new PressHall();
        for (int row = 0; row < rows.length; row++) {
            hall.numbers(row, rows[row]);
        }
        return hall;
    }

    // ---- promise 32

    private static void argumentsOfWire() {
        CHECKS.begin("promise 32, words: 0 to 65535, priority: 0 to 9");
        for (int word = 0; word < 16; word++) {
            PressHall hall = new PressHall();
            CHECKS.is("wire of the word " + word, 0, hall.wire(1 << word, 0));
            CHECKS.is("take", 1 << word, hall.take());
        }
        for (int words : new int[] {0, 1, 65534, 65535}) {
            for (int priority = 0; priority < 10; priority++) {
                PressHall hall = new PressHall();
                CHECKS.is("wire", 0, hall.wire(words, priority));
                CHECKS.is("take", words, hall.take());
            }
        }
        BUSY.refuseOutside("words", Checks.ARGUMENT, 0, 65535, (hall, words) -> hall.wire(words, 5));
        BUSY.refuseOutside("priority", Checks.ARGUMENT, 0, 9, (hall, priority) -> hall.wire(3, priority));
        BUSY.refuseOutside("priority of one that is alike", Checks.ARGUMENT, 0, 9,
                (hall, priority) -> hall.wire(0b1110, priority));
        FULL.refuseOutside("priority of one that is alike", Checks.ARGUMENT, 0, 9,
                (hall, priority) -> hall.wire(0b1110, priority));
    }

    private static void eachPriorityIsGreaterThanTheOneBelow() {
        CHECKS.begin("promise 32, priority: 0 to 9, each of its own");
        PressHall hall = new PressHall();
        int[] order = {3, 0, 9, 5, 1, 8, 2, 7, 4, 6};
        for (int i = 0; i < 10; i++) {
            CHECKS.is("wire, the place", i, hall.wire(1 << order[i], order[i]));
        }
        for (int priority = 9; priority >= 0; priority--) {
            CHECKS.is("take", 1 << priority, hall.take());
        }
    }

    private static void atLeast3WordsInBoth() {
        CHECKS.begin("the wire, alike if at least 3 words are in both");
        for (int common = 0; common <= 5; common++) {
            PressHall hall = new PressHall();
            int words = (1 << common) - 1;
            hall.wire(words << 4, 1);
            CHECKS.is("wire, " + common + " words of " + common, common < 3 ? 1 : 0, hall.wire(words << 4, 1));
            PressHall other = new PressHall();
            other.wire(words | 1 << 14, 1);
            CHECKS.is("wire, " + common + " words of " + (common + 1), common < 3 ? 1 : 0, other.wire(words, 1));
        }
    }

    private static void atLeastHalfOfAllWords() {
        CHECKS.begin("the wire, and these are at least half of all words that are in either");
        for (int common = 3; common <= 8; common++) {
            for (int mine = 0; common + mine <= 16; mine++) {
                for (int others = 0; common + mine + others <= 16; others++) {
                    int first = (1 << (common + mine)) - 1;
                    int second = (1 << common) - 1 | ((1 << others) - 1) << (common + mine);
                    PressHall hall = new PressHall();
                    hall.wire(first, 1);
                    boolean alike = mine + others <= common;
                    CHECKS.is("wire, " + common + " in both, " + mine + " and " + others + " in one", alike ? 0 : 1,
                            hall.wire(second, 1));
                    CHECKS.is("take", alike ? first | second : first, hall.take());
                }
            }
        }
    }

    private static void mergedWithTheFirstOfThem() {
        CHECKS.begin("the wire, merged with the first of them: all words of both, the greater priority");
        for (int priority = 0; priority < 10; priority++) {
            PressHall hall = new PressHall();
            hall.wire(0b1, 5);
            hall.wire(0b1110, 5);
            hall.wire(0b1110000, 5);
            hall.wire(0b11 << 14, priority);
            // Alike to the texts of the places 1 and 2.
            CHECKS.is("wire, the place of the first one", 1, hall.wire(0b1111110, priority));
            int[] due = priority > 5 ? new int[] {0b1111110, 0b11 << 14, 1, 0b1110000}
                    : new int[] {1, 0b1111110, 0b1110000, 0b11 << 14};
            for (int words : due) {
                CHECKS.is("take", words, hall.take());
            }
        }
    }

    private static void notComparedAgain() {
        CHECKS.begin("the wire, it is not compared again");
        PressHall hall = new PressHall();
        CHECKS.is("wire", 0, hall.wire(0b011111, 1));
        CHECKS.is("wire, 2 words in both", 1, hall.wire(0b111000, 2));
        // It has 2 words of the text 1, too; merged with the text 0 it has all 3 of them.
        CHECKS.is("wire, alike to the first one", 0, hall.wire(0b101111, 3));
        CHECKS.is("wire, a place behind both", 2, hall.wire(0, 0));
        CHECKS.is("take", 0b111111, hall.take());
        CHECKS.is("take, not merged with it", 0b111000, hall.take());
        PressHall other = new PressHall();
        other.wire(0b0000111, 1);
        other.wire(0b1111000, 1);
        CHECKS.is("wire, alike to the second one alone", 1, other.wire(0b1111110, 1));
        CHECKS.is("take, the first one has 2 of its words", 0b0000111, other.take());
        CHECKS.is("take", 0b1111110, other.take());
    }

    private static void twelveWait() {
        CHECKS.begin("promise 32, if it is alike to none, and 12 wait");
        PressHall hall = new PressHall();
        for (int i = 0; i < 12; i++) {
            CHECKS.is("wire, the place", i, hall.wire(0b111 << i, i % 10));
        }
        Twins twelve = new Twins(CHECKS, BoundsOfWireTest::withTwelve);
        twelve.refuse("wire, 12 waiting", Checks.STATE, other -> other.wire(0, 9));
        twelve.refuse("wire, 12 waiting, alike to none", Checks.STATE, other -> other.wire(0b1011 << 12, 9));
        FULL.refuse("wire, 12 waiting, alike to none", Checks.STATE, other -> other.wire(65535, 9));
        CHECKS.is("wire, 12 waiting, alike to the last one", 11, hall.wire(0b111 << 11 | 1, 0));
        CHECKS.is("wire, 12 waiting, alike to the first one", 0, hall.wire(0b111, 0));
        CHECKS.is("take", 0b111 << 9, hall.take());
        CHECKS.is("wire, 11 waiting", 11, hall.wire(0, 0));
        CHECKS.throwsIt("wire, 12 waiting again", Checks.STATE, () -> hall.wire(0, 0));
    }

    private static void exceptionsOfWireInOrder() {
        CHECKS.begin("promise 32, IllegalArgumentException before IllegalStateException, 12 waiting");
        FULL.refuse("words -1", Checks.ARGUMENT, hall -> hall.wire(-1, 0));
        FULL.refuse("words 65536", Checks.ARGUMENT, hall -> hall.wire(65536, 0));
        FULL.refuse("priority -1", Checks.ARGUMENT, hall -> hall.wire(0, -1));
        FULL.refuse("priority 10", Checks.ARGUMENT, hall -> hall.wire(0, 10));
    }

    // ---- promise 33

    private static void noneWaits() {
        CHECKS.begin("promise 33, if none waits");
        FRESH.refuse("take, none having come", Checks.STATE, PressHall::take);
        Twins taken = new Twins(CHECKS, () -> {
            PressHall hall = Halls.busy();
            for (int i = 0; i < 4; i++) {
                hall.take();
            }
            return hall;
        });
        taken.refuse("take, all being taken", Checks.STATE, PressHall::take);
        PressHall hall = withTwelve();
        for (int i = 0; i < 12; i++) {
            hall.take();
        }
        CHECKS.throwsIt("take, all 12 being taken", Checks.STATE, hall::take);
        CHECKS.is("wire, the first place again", 0, hall.wire(0, 0));
        CHECKS.is("take, a text without words", 0, hall.take());
    }

    private static void theGreatestPriorityTheFirstOne() {
        CHECKS.begin("promise 33, that with the greatest priority, of several the first one");
        for (int greatest = 0; greatest < 12; greatest++) {
            for (int second = greatest; second < 12; second++) {
                PressHall hall = new PressHall();
                for (int i = 0; i < 12; i++) {
                    hall.wire(1 << i, i == greatest || i == second ? 1 : 0);
                }
                CHECKS.is("take, the first one", 1 << greatest, hall.take());
                if (second > greatest) {
                    CHECKS.is("take, the second one", 1 << second, hall.take());
                }
                CHECKS.is("take, then", greatest == 0 ? second == 1 ? 4 : 2 : 1, hall.take());
            }
        }
    }

    private static void thoseBehindMoveUp() {
        CHECKS.begin("promise 33, it waits no more: the place among those that wait");
        for (int taken = 0; taken < 12; taken++) {
            PressHall hall = new PressHall();
            for (int i = 0; i < 12; i++) {
                hall.wire(0b111 << i, i == taken ? 9 : 3);
            }
            CHECKS.is("take", 0b111 << taken, hall.take());
            for (int i = 0; i < 12; i++) {
                if (i != taken) {
                    CHECKS.is("wire, the place of one that waits", i < taken ? i : i - 1, hall.wire(0b111 << i, 0));
                }
            }
            CHECKS.is("wire, the last place", 11, hall.wire(0, 0));
            for (int i = 0; i < 12; i++) {
                if (i != taken) {
                    CHECKS.is("take", 0b111 << i, hall.take());
                }
            }
            CHECKS.is("take, the last one", 0, hall.take());
        }
    }

    // ---- promise 34

    private static void argumentsOfNumbers() {
        CHECKS.begin("promise 34, row: 0 to 3, numbers: four digits");
        for (int row = 0; row < 4; row++) {
            PressHall hall = new PressHall();
            hall.numbers(row, 1234);
            CHECKS.is("solutions with the row " + row, 12, hall.solutions());
            hall.numbers(row, 1111);
            CHECKS.is("solutions without one", 0, hall.solutions());
            hall.numbers(row, 0);
            CHECKS.is("solutions without numbers", 288, hall.solutions());
        }
        BUSY.refuseOutside("row", Checks.ARGUMENT, 0, 3, (hall, row) -> numbers(hall, row, 0));
        BUSY.refuseOutside("numbers", Checks.ARGUMENT, 0, 4444, (hall, numbers) -> numbers(hall, 0, numbers));
        BUSY.refuse("row and numbers", Checks.ARGUMENT, hall -> numbers(hall, 4, 5));
    }

    private static void eachDigitFrom0To4() {
        CHECKS.begin("promise 34, each 0 to 4");
        int[] places = {1000, 100, 10, 1};
        for (int place : places) {
            for (int digit = 0; digit <= 9; digit++) {
                int numbers = digit * place;
                if (digit <= 4) {
                    CHECKS.is("solutions with " + numbers, digit == 0 ? 288 : 72, withPuzzle(numbers).solutions());
                } else {
                    CHECKS.throwsIt("numbers " + numbers, Checks.ARGUMENT, () -> numbers(new PressHall(), 1, numbers));
                    int others = 4444 - 4 * place + numbers;
                    CHECKS.throwsIt("numbers " + others, Checks.ARGUMENT, () -> numbers(new PressHall(), 1, others));
                }
            }
            BUSY.refuse("numbers with a 5", Checks.ARGUMENT, hall -> numbers(hall, 3, 5 * place));
        }
        for (int numbers = 0; numbers <= 4444; numbers++) {
            PressHall hall = new PressHall();
            int row = numbers % 4;
            int its = numbers;
            if (Integer.toString(numbers).matches("[0-4]+")) {
                CHECKS.is("numbers", 0, numbers(hall, row, numbers));
            } else {
                CHECKS.throwsIt("numbers " + its, Checks.ARGUMENT, () -> numbers(hall, row, its));
            }
        }
    }

    private static void theFirstOneFirst() {
        CHECKS.begin("promise 34, the first one first");
        CHECKS.is("solutions, 1 twice in the first column", 0, withPuzzle(1000, 0, 0, 1000).solutions());
        CHECKS.is("solutions, 1 in the first and the last column", 18, withPuzzle(1000, 0, 0, 1).solutions());
        CHECKS.is("solutions, 4 twice in the last column", 0, withPuzzle(4, 0, 0, 4).solutions());
    }

    // ---- promise 35

    private static boolean isTogether(int one, int other) {
        return one / 4 == other / 4 || one % 4 == other % 4
                || one / 8 == other / 8 && one % 4 / 2 == other % 4 / 2;
    }

    private static void inEachRowColumnAndQuarter() {
        CHECKS.begin("promise 35, a solution has in each row, each column and each quarter the numbers 1 to 4");
        int[] places = {1000, 100, 10, 1};
        for (int one = 0; one < 16; one++) {
            for (int other = one + 1; other < 16; other++) {
                for (int number = 1; number <= 4; number++) {
                    int[] rows = new int[4];
                    rows[one / 4] += number * places[one % 4];
                    rows[other / 4] += number * places[other % 4];
                    boolean together = isTogether(one, other);
                    int solutions = withPuzzle(rows).solutions();
                    CHECKS.isTrue(number + " at " + one + " and " + other + ": " + solutions + " solutions",
                            together == (solutions == 0));
                }
            }
        }
    }

    private static void allNumbersSet() {
        CHECKS.begin("promise 35, a puzzle with all numbers, and with one wrong");
        CHECKS.is("solutions", 1, withPuzzle(1234, 3412, 2143, 4321).solutions());
        CHECKS.is("solutions, one number open", 1, withPuzzle(1234, 3412, 2143, 4320).solutions());
        CHECKS.is("solutions, two exchanged", 0, withPuzzle(1234, 3412, 2143, 4312).solutions());
        CHECKS.is("solutions, quarters wrong", 0, withPuzzle(1234, 2341, 3412, 4123).solutions());
        CHECKS.is("solutions, columns wrong", 0, withPuzzle(1234, 3412, 1234, 3412).solutions());
        CHECKS.is("solutions, all the same", 0, withPuzzle(1111, 1111, 1111, 1111).solutions());
    }

    private static void oneSolutionOrTwo() {
        CHECKS.begin("promise 35, a puzzle is right if it has just one solution");
        CHECKS.is("solutions, two", 2, withPuzzle(204, 402, 2143, 4321).solutions());
        CHECKS.is("solutions, one", 1, withPuzzle(1204, 402, 2143, 4321).solutions());
        CHECKS.is("solutions, none: the 4 of the row 0 has no place", 0, withPuzzle(1230, 0, 0, 4).solutions());
    }

    private static void solutionsChangesNothing() {
        CHECKS.begin("promise 35, a call that only asks");
        int due = Halls.busy().solutions();
        BUSY.keep("solutions", due, PressHall::solutions);
        PressHall hall = withPuzzle(1000);
        for (int i = 0; i < 20; i++) {
            CHECKS.is("solutions", 72, hall.solutions());
        }
    }

    public static void main(String[] args) {
        argumentsOfWire();
        eachPriorityIsGreaterThanTheOneBelow();
        atLeast3WordsInBoth();
        atLeastHalfOfAllWords();
        mergedWithTheFirstOfThem();
        notComparedAgain();
        twelveWait();
        exceptionsOfWireInOrder();
        noneWaits();
        theGreatestPriorityTheFirstOne();
        thoseBehindMoveUp();
        argumentsOfNumbers();
        eachDigitFrom0To4();
        theFirstOneFirst();
        inEachRowColumnAndQuarter();
        allNumbersSet();
        oneSolutionOrTwo();
        solutionsChangesNothing();
        CHECKS.end();
    }
}
