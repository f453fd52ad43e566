/** Promises 47 to 50: sightings that tell how INSPECTOR 0 goes. */
public final class SightTest {
    private static final Checks CHECKS = new Checks();

    public static void main(String[] args) {
        sightingsOfFour();
        noSightings();
        wrongInputs();
        CHECKS.close("SightTest");
    }

    private static void sightings(CoachAhead x, int slot, int width, int... numbers) {
        CHECKS.due("row", x.row(slot, width, numbers.length), 0);
        for (int i = 0; i < numbers.length; i++) {
            CHECKS.due("write", x.write(slot, i, numbers[i]), 0);
        }
    }

    private static void sightingsOfFour() {
        CoachAhead x = Checks.of(Trains.FOUR + "inspector at 3 down pace 1;");
        sightings(x, 0, 0, 2, 1);
        CHECKS.due("sighted(0)", x.sighted(0), 5);
        CHECKS.due("told(0)", x.told(0), 0);
        int[] may = {15, 6, 2, 7, 15, 9, 0, 0};
        for (int m = 0; m < may.length; m++) {
            CHECKS.due("may(0, " + m + ")", x.may(0, m), may[m]);
        }
        CHECKS.due("look(0)", x.look(0), 4);
        CoachAhead fresh = Checks.of(Trains.FOUR);
        sightings(fresh, 0, 0, 2, 1);
        CHECKS.due("may(0, 3), asked first", fresh.may(0, 3), 7);
        sightings(x, 1, 3, 2, 1, 3, 1);
        // BEGINS 0, 5 and 7 are left; in MINUTE 0 they are in three COACHES.
        CHECKS.due("sighted(1)", x.sighted(1), 3);
        CHECKS.due("told(1)", x.told(1), 0);
        CHECKS.due("look(1)", x.look(1), 0);
        sightings(x, 2, 1, 4, 1);
        CHECKS.due("sighted(2)", x.sighted(2), 1);
        CHECKS.due("told(2)", x.told(2), 7);
        CHECKS.due("look(2)", x.look(2), -1);
        sightings(x, 3, 2, 0, 0, 1, 0);
        CHECKS.due("sighted(3)", x.sighted(3), 0);
        CHECKS.due("told(3)", x.told(3), -1);
        CHECKS.due("may(3, 0)", x.may(3, 0), 0);
        CHECKS.due("look(3)", x.look(3), -1);
        // The COACH in which it is goes by the people there now.
        x.set(1, 0, 0);
        CHECKS.due("sighted(2)", x.sighted(2), 0);
    }

    private static void noSightings() {
        CoachAhead x = Checks.of("train coaches 2 minutes 3 every 1 fare 0 fine 0; inspector at 0 up pace 1;");
        x.row(0, 0, 0);
        CHECKS.due("sighted(0)", x.sighted(0), 4);
        CHECKS.due("told(0)", x.told(0), 0);
        CHECKS.due("may(0, 0)", x.may(0, 0), 3);
        CHECKS.due("may(0, 2)", x.may(0, 2), 0);
        // In MINUTE 0 two and two; in MINUTE 1 two are gone, one each is in 0 and in 1.
        CHECKS.due("look(0)", x.look(0), 0);
        x = Checks.of("train coaches 2 minutes 3 every 1 fare 0 fine 0; coach 0 people 2; coach 1 people 2;"
            + "inspector at 0 up pace 1;");
        sightings(x, 0, 0, 0, 0);
        CHECKS.due("sighted(0)", x.sighted(0), 2);
        CHECKS.due("look(0): alike to the END", x.look(0), -1);
    }

    private static void wrongInputs() {
        CoachAhead x = Checks.of(Trains.FOUR);
        int[] wrong = {-1, 4, Integer.MIN_VALUE, Integer.MAX_VALUE};
        for (int w : wrong) {
            CHECKS.due("sighted", x.sighted(w), -2);
            CHECKS.due("told", x.told(w), -2);
            CHECKS.due("may", x.may(w, 0), -2);
            CHECKS.due("look", x.look(w), -2);
        }
        state(x, 0, -6);
        CHECKS.due("may(0, 8)", x.may(0, 8), -2);
        sightings(x, 0, 0, 2);
        state(x, 0, -2);
        sightings(x, 0, 0, 2, 1, 3);
        state(x, 0, -2);
        sightings(x, 0, 0, 8, 1);
        state(x, 0, -2);
        sightings(x, 0, 0, 2, 4);
        state(x, 0, -2);
        sightings(x, 0, 0, 2, 1, 3, 200);
        state(x, 0, -2);
        sightings(x, 0, 0, -1, 1);
        state(x, 0, -2);
        sightings(x, 0, 0, 2, 1);
        CHECKS.due("may(0, -1)", x.may(0, -1), -2);
        CHECKS.due("may(0, 8)", x.may(0, 8), -2);
        CHECKS.due("sighted(0)", x.sighted(0), 5);
        CHECKS.due("row", x.row(1, 3, 2), 0);
        x.write(1, 0, 4294967296L);
        state(x, 1, -2);
        state(Checks.of(Trains.BARE), 0, -2);
        state(new CoachAhead(), 0, -2);
    }

    private static void state(CoachAhead x, int slot, int due) {
        CHECKS.due("sighted(" + slot + ")", x.sighted(slot), due);
        CHECKS.due("told(" + slot + ")", x.told(slot), due);
        CHECKS.due("may(" + slot + ", 0)", x.may(slot, 0), due);
        CHECKS.due("look(" + slot + ")", x.look(slot), due);
    }
}
