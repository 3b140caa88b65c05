import java.util.ArrayList;
import java.util.List;

/** The probe has to see each thing that a call can change: else no test could tell that a refused call changed it. */
public final class ProbeTest {
    private static final Checks CHECKS = new Checks();
    private static final List<List<String>> BEFORE = answers(hall -> 0);

    private ProbeTest() {
    }

    private static List<List<String>> answers(Twins.Question change) {
        List<List<String>> all = new ArrayList<>();
        for (int part = 0; part < Probe.PARTS; part++) {
            PressHall hall = Halls.busy();
            change.to(hall);
            all.add(Probe.answers(part, hall));
        }
        return all;
    }

    private static void sees(String what, Twins.Question change) {
        CHECKS.isTrue("the probe sees " + what, !answers(change).equals(BEFORE));
    }

    private static long done(Runnable call) {
        call.run();
        return 0;
    }

    private static long bit(boolean answer) {
        return answer ? 1 : 0;
    }

    private static void pagesAndAdverts() {
        CHECKS.begin("pages and advertisements");
        for (int i = 0; i < 10; i++) {
            int page = i;
            if (Halls.busy().cell(page, 0) == 0) {
                sees("the section of page " + page, hall -> done(() -> hall.page(page, page == 9 ? 1 : 3, page == 5)));
                sees("the colour of page " + page, hall -> done(() -> hall.page(page, page == 9 ? 3 : 0, page != 5)));
            }
        }
        for (int i = 0; i < 4; i++) {
            int category = i;
            sees("the distance of " + category, hall -> hall.distance(category, 5));
        }
        sees("advert", hall -> hall.advert(0, 1, 1, false, -1, -1));
        sees("place", hall -> hall.place(3));
        sees("takeOff", hall -> hall.takeOff(2));
    }

    private static void stories() {
        CHECKS.begin("stories");
        sees("story", hall -> hall.story(0, 1, 1));
        sees("lay", hall -> hall.lay(4) + hall.lay(5));
        sees("lift", hall -> hall.lift(0));
        sees("change", hall -> hall.change(0, 5));
    }

    private static void editions() {
        CHECKS.begin("people, editions and corrections");
        for (int i = 0; i < 6; i++) {
            int person = i;
            sees("person " + person, hall -> bit(hall.person(person)));
        }
        for (int i = 0; i < 10; i++) {
            int page = i;
            sees("sign " + page, hall -> hall.sign(page, 2));
            sees("hold " + page, hall -> bit(hall.hold(page, 0)));
        }
        sees("correct", hall -> hall.correct(0, 1));
        sees("placeCorrection", PressHall::placeCorrection);
        sees("clean", hall -> hall.clean(0));
    }

    private static void rest() {
        CHECKS.begin("the press, headlines, pictures, the wire, puzzles");
        sees("pass", hall -> hall.pass(1));
        sees("truck", hall -> hall.truck(1, 1));
        sees("word", hall -> hall.word(1, 1));
        sees("dropWords", PressHall::dropWords);
        for (int i = 0; i < 6; i++) {
            int row = i;
            sees("weigh " + row, hall -> hall.weigh(row, 888888));
        }
        sees("wire", hall -> hall.wire(0, 0));
        sees("wire, the priority of a text", hall -> hall.wire(0b1110, 3));
        sees("wire, the words of a text", hall -> hall.wire(0b101110, 0));
        sees("take", PressHall::take);
        for (int i = 0; i < 4; i++) {
            int row = i;
            sees("numbers " + row, hall -> done(() -> hall.numbers(row, row == 2 ? 1 : 0)));
        }
    }

    public static void main(String[] args) {
        CHECKS.begin("twice the same");
        CHECKS.isTrue("the probe answers the same of halls made by the same calls", answers(hall -> 0).equals(BEFORE));
        pagesAndAdverts();
        stories();
        editions();
        rest();
        CHECKS.end();
    }
}
