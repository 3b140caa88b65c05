/** The sentences of the document that name a boundary: minutes and trucks (promises 24 to 26). */
public final class BoundsOfPressTest {
    private static final Checks CHECKS = new Checks();
    private static final Twins BUSY = new Twins(CHECKS, Halls::busy);
    private static final Twins FULL = new Twins(CHECKS, Halls::full);

    private BoundsOfPressTest() {
    }

    /** A hall with an edition, closed at this minute. */
    private static PressHall closedAt(int minute) {
        PressHall hall = new PressHall();
        for (int rest = minute; rest > 0; rest -= Math.min(rest, 100)) {
            hall.pass(Math.min(rest, 100));
        }
        hall.close();
        return hall;
    }

    // ---- promise 24

    private static void minutesFrom1To100() {
        CHECKS.begin("promise 24, minutes: 1 to 100");
        PressHall hall = new PressHall();
        int sum = 0;
        for (int minutes = 1; minutes <= 100; minutes++) {
            sum += minutes;
            CHECKS.is("pass(" + minutes + ")", sum, hall.pass(minutes));
        }
        BUSY.refuseOutside("minutes", Checks.ARGUMENT, 1, 100, PressHall::pass);
        CHECKS.is("pass, the minute then", 155, Halls.busy().pass(100));
    }

    private static void aRefusedPassIsNoTime() {
        CHECKS.begin("promise 24, a call that throws an exception changes nothing");
        PressHall hall = new PressHall();
        for (int minutes : new int[] {0, 101, -1, 200, Integer.MAX_VALUE, Integer.MIN_VALUE}) {
            CHECKS.throwsIt("pass(" + minutes + ")", Checks.ARGUMENT, () -> hall.pass(minutes));
        }
        CHECKS.is("pass", 1, hall.pass(1));
    }

    // ---- promise 25

    private static void argumentsOfTruck() {
        CHECKS.begin("promise 25, minute: 0 to 1000, copies: 1 to 5000");
        BUSY.refuseOutside("minute", Checks.ARGUMENT, 0, 1000, (hall, minute) -> hall.truck(minute, 1));
        BUSY.refuseOutside("copies", Checks.ARGUMENT, 1, 5000, (hall, copies) -> hall.truck(0, copies));
        int[][] edges = {{0, 1}, {0, 5000}, {1000, 1}, {1000, 5000}, {1, 2}, {999, 4999}};
        PressHall hall = closedAt(1100);
        for (int i = 0; i < edges.length; i++) {
            CHECKS.is("truck", i, hall.truck(edges[i][0], edges[i][1]));
        }
        int[] printed = {1, 101, 201, 301, 101, 201};
        for (int i = 0; i < edges.length; i++) {
            CHECKS.is("late of truck " + i, 1100 + printed[i] - edges[i][0], hall.late(0, i));
        }
    }

    private static void sixTrucks() {
        CHECKS.begin("promise 25, if there are 6");
        PressHall hall = new PressHall();
        for (int truck = 0; truck < 6; truck++) {
            CHECKS.is("truck", truck, hall.truck(0, 1));
        }
        CHECKS.throwsIt("truck, 6 being there", Checks.STATE, () -> hall.truck(0, 1));
        CHECKS.throwsIt("truck, 6 being there", Checks.STATE, () -> hall.truck(0, 1));
        FULL.refuse("truck, 6 being there", Checks.STATE, other -> other.truck(0, 5000));
    }

    private static void exceptionsOfTruckInOrder() {
        CHECKS.begin("promise 25, IllegalArgumentException before IllegalStateException, 6 being there");
        FULL.refuse("minute -1", Checks.ARGUMENT, hall -> hall.truck(-1, 1));
        FULL.refuse("minute 1001", Checks.ARGUMENT, hall -> hall.truck(1001, 1));
        FULL.refuse("copies 0", Checks.ARGUMENT, hall -> hall.truck(0, 0));
        FULL.refuse("copies 5001", Checks.ARGUMENT, hall -> hall.truck(0, 5001));
    }

    // ---- promise 26

    private static void argumentsOfLate() {
        CHECKS.begin("promise 26, if there is no such edition or truck");
        BUSY.refuseOutside("edition", Checks.INDEX, 0, 0, (hall, edition) -> hall.late(edition, 0));
        BUSY.refuseOutside("truck", Checks.INDEX, 0, 1, (hall, truck) -> hall.late(0, truck));
        FULL.refuseOutside("edition", Checks.INDEX, 0, 7, (hall, edition) -> hall.late(edition, 5));
        FULL.refuseOutside("truck", Checks.INDEX, 0, 5, (hall, truck) -> hall.late(7, truck));
        BUSY.keep("late, a call that only asks", 5, hall -> hall.late(0, 0));
    }

    private static void fiftyCopiesInEachMinute() {
        CHECKS.begin("the press, 50 copies in each minute: the first 50 are printed 1 minute later");
        for (int copies : new int[] {1, 2, 49, 50, 51, 99, 100, 101, 149, 150, 151, 4950, 4951, 4999, 5000}) {
            PressHall hall = closedAt(10);
            hall.truck(0, copies);
            CHECKS.is("late with " + copies + " copies", 10 + (copies - 1) / 50 + 1, hall.late(0, 0));
        }
    }

    private static void lateOnlyIfThatIsLater() {
        CHECKS.begin("the press, a truck is late by the minutes between them, if that is later");
        for (int minute = 0; minute <= 60; minute++) {
            PressHall hall = closedAt(30);
            hall.truck(minute, 50);
            hall.truck(minute, 1);
            CHECKS.is("late of one that goes at " + minute, Math.max(0, 31 - minute), hall.late(0, 0));
            CHECKS.is("late of the other that goes at " + minute, Math.max(0, 32 - minute), hall.late(0, 1));
        }
        PressHall hall = closedAt(0);
        hall.truck(1000, 1);
        hall.truck(0, 1);
        CHECKS.is("late, far ahead of its minute", 0, hall.late(0, 0));
        CHECKS.is("late, an edition of the minute 0", 1, hall.late(0, 1));
    }

    private static void inTheOrderOfTheirMinutes() {
        CHECKS.begin("the press, loaded in the order of these minutes, of the same lower numbers first");
        for (int minute = 9; minute <= 11; minute++) {
            PressHall hall = closedAt(200);
            hall.truck(10, 50);
            hall.truck(minute, 50);
            CHECKS.is("late of the truck 0", minute < 10 ? 192 : 191, hall.late(0, 0));
            CHECKS.is("late of the truck 1", (minute < 10 ? 201 : 202) - minute, hall.late(0, 1));
        }
        PressHall hall = closedAt(100);
        for (int truck = 0; truck < 6; truck++) {
            hall.truck(50, 50);
        }
        for (int truck = 0; truck < 6; truck++) {
            CHECKS.is("late of the truck " + truck, 51 + truck, hall.late(0, truck));
        }
    }

    private static void noCopyIsLost() {
        CHECKS.begin("the press, its copies, and those of the trucks ahead of it, are printed one after the other");
        PressHall hall = closedAt(100);
        int[] copies = {25, 25, 1, 49, 50, 5000};
        int[] printed = {101, 101, 102, 102, 103, 203};
        for (int truck = 0; truck < 6; truck++) {
            hall.truck(truck, copies[truck]);
        }
        for (int truck = 0; truck < 6; truck++) {
            CHECKS.is("late of the truck " + truck, printed[truck] - truck, hall.late(0, truck));
        }
        PressHall most = closedAt(0);
        for (int truck = 0; truck < 6; truck++) {
            most.truck(0, 5000);
        }
        CHECKS.is("late of the last of 30000 copies", 600, most.late(0, 5));
    }

    private static void eachEditionFromItsMinute() {
        CHECKS.begin("the press, an edition is printed from the minute at which it is closed");
        PressHall hall = new PressHall();
        hall.truck(0, 51);
        for (int edition = 0; edition < 8; edition++) {
            hall.close();
            hall.pass(1 + edition);
        }
        hall.pass(100);
        int minute = 0;
        for (int edition = 0; edition < 8; edition++) {
            CHECKS.is("late with edition " + edition, minute + 2, hall.late(edition, 0));
            minute += 1 + edition;
        }
        PressHall last = closedAt(50000);
        last.truck(1000, 5000);
        CHECKS.is("late, an edition of the minute 50000", 49100, last.late(0, 0));
    }

    public static void main(String[] args) {
        minutesFrom1To100();
        aRefusedPassIsNoTime();
        argumentsOfTruck();
        sixTrucks();
        exceptionsOfTruckInOrder();
        argumentsOfLate();
        fiftyCopiesInEachMinute();
        lateOnlyIfThatIsLater();
        inTheOrderOfTheirMinutes();
        noCopyIsLost();
        eachEditionFromItsMinute();
        CHECKS.end();
    }
}
