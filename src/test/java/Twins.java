import java.util.ArrayList;
import java.util.List;
import java.util.function.Supplier;

/** Halls made by the same calls: one that had to refuse a call, or to do nothing, has to be as the others are. */
final class Twins {
    /** A call of the face on any hall. */
    interface Question {
        long to(PressHall hall);
    }

    /** A call of the face with one argument that can be any. */
    interface Ranged {
        long to(PressHall hall, int argument);
    }

    /** How far outside a range an argument is tried, also by as much as would be lost in a narrower number. */
    private static final int[] FAR = {Integer.MIN_VALUE, Integer.MAX_VALUE, -65536, -256, -64, -32, -2, 2, 32, 64, 256,
        65536, 1 << 20};

    private final Checks checks;
    private final Supplier<PressHall> maker;
    private final List<List<String>> due = new ArrayList<>();

    Twins(Checks checks, Supplier<PressHall> maker) {
        this.checks = checks;
        this.maker = maker;
        for (int part = 0; part < Probe.PARTS; part++) {
            List<String> answers = Probe.answers(part, maker.get());
            checks.isTrue("a part of the probe is short: " + answers.size(), answers.size() <= Probe.MOST_CALLS);
            due.add(answers);
        }
    }

    private void isAsDue(String what, int part, PressHall hall) {
        List<String> answers = Probe.answers(part, hall);
        int same = 0;
        while (same < answers.size() && same < due.get(part).size()
                && answers.get(same).equals(due.get(part).get(same))) {
            same++;
        }
        checks.isTrue(what + " changed something: part " + part + " of the probe, answer " + same,
                answers.equals(due.get(part)));
    }

    /** The call throws just this exception, and changes nothing. */
    void refuse(String what, Class<? extends RuntimeException> want, Question call) {
        for (int part = 0; part < due.size(); part++) {
            PressHall hall = maker.get();
            checks.throwsIt(what, want, () -> call.to(hall));
            isAsDue(what, part, hall);
        }
    }

    /** The call answers so, and changes nothing. */
    void keep(String what, long want, Question call) {
        for (int part = 0; part < due.size(); part++) {
            PressHall hall = maker.get();
            checks.is(what, want, call.to(hall));
            isAsDue(what, part, hall);
        }
    }

    /** The call throws this exception for all arguments but those from the lowest to the highest one. */
    void refuseOutside(String what, Class<? extends RuntimeException> want, int lowest, int highest, Ranged call) {
        for (int argument : new int[] {lowest - 1, highest + 1, Integer.MIN_VALUE, Integer.MAX_VALUE}) {
            refuse(what + " " + argument, want, hall -> call.to(hall, argument));
        }
        // With 100 more or less, what takes a cell would be taken for something else.
        for (int argument : new int[] {-200, -100, 100, 200}) {
            if (argument < lowest || argument > highest) {
                refuse(what + " " + argument, want, hall -> call.to(hall, argument));
            }
        }
        for (int far : FAR) {
            for (int argument : new int[] {lowest + far, highest + far}) {
                if (argument < lowest || argument > highest) {
                    PressHall hall = maker.get();
                    checks.throwsIt(what + " " + argument, want, () -> call.to(hall, argument));
                }
            }
        }
    }
}
