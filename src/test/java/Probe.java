import java.util.ArrayList;
import java.util.List;

/** Asks a hall all that can be asked, in parts that each take a hall of their own: so two halls can be told apart. */
final class Probe {
    /** A hall answers 512 calls: what the parts leave of them is for the calls that made it. */
    static final int MOST_CALLS = 200;
    private static final int PART_OF_EDITIONS = 11;
    private static final int PART_OF_PUZZLE = PART_OF_EDITIONS + 8;
    static final int PARTS = PART_OF_PUZZLE + 4;

    /** The sections and zones of the first 12 advertisements of the probe; the other 4 need colour. */
    private static final int[] SECTIONS = {3, 2, 1, 3, 2, 1, 3, 2, 1, 3, 2, 1, -1, -1, -1, -1};
    private static final int[] ZONES = {-1, -1, -1, 0, 0, 0, 1, 1, 1, 2, 2, 2, -1, 0, 1, 2};
    private static final int FIRST_OF_COLOUR = 12;

    private final PressHall hall;
    private final List<String> answers = new ArrayList<>();

    private Probe(PressHall hall) {
        this.hall = hall;
    }

    /** Adds the advertisements that tell the sections and colours of the pages, but those that are there. */
    static void addAdverts(PressHall hall) {
        for (int i = 0; i < SECTIONS.length; i++) {
            hall.advert(0, 1, 1, i >= FIRST_OF_COLOUR, SECTIONS[i], ZONES[i]);
        }
    }

    static List<String> answers(int part, PressHall hall) {
        Probe probe = new Probe(hall);
        probe.askPart(part);
        return probe.answers;
    }

    private void askPart(int part) {
        if (part >= PART_OF_PUZZLE) {
            askPuzzleRow(part - PART_OF_PUZZLE);
            return;
        }
        if (part >= PART_OF_EDITIONS) {
            askEdition(part - PART_OF_EDITIONS);
            return;
        }
        switch (part) {
            case 0 -> askPages();
            case 1 -> askParts();
            case 2 -> askSignatures();
            case 3 -> askHolds();
            case 4 -> askKinds(true);
            case 5 -> askKinds(false);
            case 6 -> askOwed();
            case 7 -> askAdverts();
            case 8 -> askStories();
            case 9 -> askHeadlineAndPicture();
            default -> askCounts();
        }
    }

    private String ask(Checks.Call call) {
        String answer = Checks.answerOf(call);
        answers.add(answer);
        return answer;
    }

    private static long bit(boolean answer) {
        return answer ? 1 : 0;
    }

    private void askPages() {
        for (int i = 0; i < 10; i++) {
            int page = i;
            for (int j = 0; j < 12; j++) {
                int cell = j;
                ask(() -> hall.cell(page, cell));
            }
            ask(() -> bit(hall.isReady(page)));
        }
        for (int i = 0; i < 3; i++) {
            int zone = i;
            ask(() -> hall.advertsIn(zone));
        }
        ask(hall::touched);
    }

    private void askParts() {
        for (int i = 0; i < 8; i++) {
            int edition = i;
            for (int j = 0; j < 6; j++) {
                int truck = j;
                ask(() -> hall.late(edition, truck));
            }
        }
        for (int i = 0; i < 20; i++) {
            int story = i;
            ask(() -> hall.part(story, 0));
            ask(() -> hall.part(story, 1));
        }
    }

    /** Each person signs each page: those who have signed it, or have left, can't. */
    private void askSignatures() {
        for (int i = 0; i < 60; i++) {
            int page = i / 6;
            int person = i % 6;
            ask(() -> hall.sign(page, person));
        }
        for (int i = 0; i < 6; i++) {
            int person = i;
            ask(() -> bit(hall.person(person)));
        }
    }

    private void askHolds() {
        for (int i = 0; i < 60; i++) {
            int page = i / 6;
            int person = i % 6;
            ask(() -> bit(hall.hold(page, person)));
        }
    }

    private void clearPages() {
        for (int i = 0; i < Halls.FIRST_PROBE_ADVERT; i++) {
            int advert = i;
            ask(() -> hall.takeOff(advert));
        }
        for (int i = 0; i < 20; i++) {
            int story = i;
            ask(() -> hall.lift(story));
        }
        for (int i = 0; i < 10; i++) {
            int page = i;
            ask(() -> hall.clean(page));
        }
    }

    /** Clears the pages, and finds those of each section, or those with colour, by the probe's advertisements. */
    private void askKinds(boolean colours) {
        clearPages();
        ask(() -> {
            addAdverts(hall);
            return 0;
        });
        int first = Halls.FIRST_PROBE_ADVERT + (colours ? FIRST_OF_COLOUR : 0);
        int last = Halls.FIRST_PROBE_ADVERT + (colours ? SECTIONS.length : FIRST_OF_COLOUR) - 1;
        for (int advert = first; advert <= last; advert++) {
            String before = "";
            String place = placeOnce(advert);
            for (int found = 1; found < 7 && !place.equals(before); found++) {
                before = place;
                place = placeOnce(advert);
            }
        }
    }

    /** Places an advertisement and takes it off; the page on which it was loses its section and colour then. */
    private String placeOnce(int advert) {
        String place = ask(() -> hall.place(advert));
        if (place.equals("-1") || place.startsWith("throws")) {
            return place;
        }
        int page = Integer.parseInt(place) / 100;
        ask(() -> hall.takeOff(advert));
        ask(() -> {
            hall.page(page, 0, false);
            return 0;
        });
        return place;
    }

    private void askOwed() {
        clearPages();
        for (int i = 0; i < 6; i++) {
            int where = Integer.parseInt("0" + ask(hall::placeCorrection).replaceAll("[^0-9]", ""));
            ask(() -> hall.cell(where / 100, where % 100));
        }
        for (int i = 0; i < 20; i++) {
            int story = i;
            ask(() -> hall.correct(0, story));
        }
    }

    /** The advertisements' sizes are told by cells, their kinds by where they are placed once more. */
    private void askAdverts() {
        clearPages();
        for (int i = 0; i < 4; i++) {
            int category = i;
            ask(() -> hall.distance(category, 1));
        }
        for (int i = 0; i < 20; i++) {
            int advert = i;
            ask(() -> hall.place(advert));
        }
        for (int i = 0; i < 60; i++) {
            int page = i / 12;
            int cell = i % 12;
            ask(() -> hall.cell(page < 3 ? page : page + 5, cell));
        }
    }

    private void askStories() {
        clearPages();
        for (int i = 0; i < 20; i++) {
            int story = i;
            ask(() -> hall.lay(story));
            ask(() -> hall.part(story, 0));
            ask(() -> hall.part(story, 1));
            ask(() -> hall.lift(story));
        }
    }

    private void askHeadlineAndPicture() {
        for (int i = 0; i <= 104; i++) {
            int width = i;
            ask(() -> hall.fit(width));
        }
        ask(hall::dropWords);
        for (int i = 0; i < 36; i++) {
            int width = 1 + i / 6;
            int height = 1 + i % 6;
            ask(() -> hall.crop(width, height));
        }
        for (int i = 0; i < 6; i++) {
            int row = i;
            ask(() -> hall.weigh(row, 0));
        }
    }

    /** How many of each thing there are; and the texts, with texts of all priorities between them if there is room. */
    private void askCounts() {
        ask(hall::solutions);
        ask(() -> hall.pass(1));
        ask(() -> hall.word(1, 1));
        for (int i = 9; i >= 0; i--) {
            int priority = i;
            ask(() -> hall.wire(0, priority));
        }
        for (int i = 0; i <= 12; i++) {
            ask(hall::take);
        }
        ask(() -> hall.advert(0, 1, 1, false, -1, -1));
        ask(() -> hall.story(0, 1, 1));
        ask(() -> hall.truck(0, 1));
        ask(hall::close);
        for (int i = 0; i < 60 && !answers.get(answers.size() - 1).equals("throws IndexOutOfBoundsException"); i++) {
            int edition = i;
            ask(() -> hall.printed(edition, 0, 0));
        }
    }

    private void askEdition(int edition) {
        for (int i = 0; i < 120; i++) {
            int page = i / 12;
            int cell = i % 12;
            ask(() -> hall.printed(edition, page, cell));
        }
    }

    private long putNumbers(int row, int numbers) {
        hall.numbers(row, numbers);
        return 0;
    }

    /** With one row alone a puzzle has a solution, but if one of its numbers comes again in its column. */
    private void askPuzzleRow(int row) {
        for (int i = 0; i < 4; i++) {
            int other = i;
            if (other != row) {
                ask(() -> putNumbers(other, 0));
            }
        }
        int behind = row < 2 ? row + 2 : row - 2;
        int[] places = {1000, 100, 10, 1};
        for (int i = 0; i < 16; i++) {
            int numbers = places[i % 4] * (1 + i / 4);
            ask(() -> putNumbers(behind, numbers));
            ask(hall::solutions);
        }
    }
}
