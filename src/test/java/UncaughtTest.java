/** Promises 22 to 27 and 51 to 53: staying UNCAUGHT, and the doors and LOOS that matter for it. */
public final class UncaughtTest {
    private static final Checks CHECKS = new Checks();

    public static void main(String[] args) {
        canOfFour();
        pathsOfFour();
        nobodyPasses();
        swaps();
        platforms();
        loos();
        eightCoaches();
        oneMinute();
        marksThatMatter();
        wrongInputs();
        CHECKS.close("UncaughtTest");
    }

    private static void path(CoachAhead x, int coach, int... due) {
        for (int i = 0; i < due.length; i++) {
            CHECKS.due("path(" + coach + ", " + i + ")", x.path(coach, i), due[i]);
        }
        CHECKS.due("path(" + coach + ", -1)", x.path(coach, -1), -1);
        CHECKS.due("path(" + coach + ", " + due.length + ")", x.path(coach, due.length), -1);
    }

    private static void canOfFour() {
        CoachAhead x = Checks.of(Trains.FOUR);
        // PLACES from which one can, MINUTE by MINUTE: COACHES as bits, and the LOO of COACH 1.
        int[] open = {14, 13, 13, 9, 3, 7, 15, 15};
        for (int m = 0; m < open.length; m++) {
            for (int c = 0; c < 4; c++) {
                CHECKS.due("can(" + c + ", 0, " + m + ")", x.can(c, 0, m), open[m] >> c & 1);
            }
            CHECKS.due("can(1, 1, " + m + ")", x.can(1, 1, m), 1);
        }
        CHECKS.due("safe()", x.safe(), 14);
        int[] room = {3, 3, 4, 4, 4, 4, 5, 5};
        for (int m = 0; m < room.length; m++) {
            CHECKS.due("room(" + m + ")", x.room(m), room[m]);
        }
    }

    private static void pathsOfFour() {
        CoachAhead x = Checks.of(Trains.FOUR);
        path(x, 0);
        path(x, 1, 1, 0, 1, 4, 0, 0, 0);
        path(x, 2, 0, 0, 1, 4, 0, 0, 0);
        path(x, 3, 0, 0, 0, 4, 0, 0, 0);
        int[] effort = {-1, 1, 2, 1};
        int[] lasts = {0, 8, 8, 8};
        for (int c = 0; c < 4; c++) {
            CHECKS.due("effort(" + c + ")", x.effort(c), effort[c]);
            CHECKS.due("lasts(" + c + ")", x.lasts(c), lasts[c]);
        }
    }

    private static void nobodyPasses() {
        CoachAhead x = Checks.of(Trains.SHUTTLE);
        CHECKS.due("safe()", x.safe(), 0);
        CHECKS.due("lasts(0)", x.lasts(0), 0);
        CHECKS.due("lasts(1)", x.lasts(1), 1);
        CHECKS.due("effort(1)", x.effort(1), -1);
        CHECKS.due("room(0)", x.room(0), 1);
        CHECKS.due("room(1)", x.room(1), 0);
        CHECKS.due("room(5)", x.room(5), 0);
        x = Checks.of("train coaches 3 minutes 9 every 20 fare 0 fine 0; inspector at 0 up pace 1 turns;");
        CHECKS.due("lasts(1)", x.lasts(1), 2);
        CHECKS.due("lasts(2)", x.lasts(2), 2);
        CHECKS.due("room(1)", x.room(1), 1);
        x = Checks.of(Trains.BARE);
        CHECKS.due("safe()", x.safe(), 7);
        CHECKS.due("effort(1)", x.effort(1), 0);
        CHECKS.due("lasts(1)", x.lasts(1), 5);
        path(x, 1, 0, 0, 0, 0);
    }

    private static void swaps() {
        // It goes from 2 to 1 just when he would go from 1 to 2.
        CoachAhead x = Checks.of("train coaches 3 minutes 2 every 9 fare 0 fine 0; inspector at 2 down pace 1;");
        CHECKS.due("can(1, 0, 0)", x.can(1, 0, 0), 1);
        path(x, 1, 2);
        x = Checks.of("train coaches 3 minutes 2 every 9 fare 0 fine 0; inspector at 0 up pace 1;");
        path(x, 1, 1);
        path(x, 2, 0);
        // Out of a LOO he meets it too; in it he stays unseen.
        x = Checks.of("train coaches 2 minutes 3 every 9 fare 0 fine 0; coach 0 people 0 loo;"
            + "inspector at 1 down pace 1 turns;");
        path(x, 0, 3, 0);
        CHECKS.due("effort(0)", x.effort(0), 1);
        x = Checks.of("train coaches 2 minutes 3 every 9 fare 0 fine 0; coach 0 people 0 loo;"
            + "inspector at 1 down pace 1 turns knocks 1;");
        CHECKS.due("safe()", x.safe(), 0);
        CHECKS.due("can(0, 1, 0)", x.can(0, 1, 0), 0);
        CHECKS.due("can(0, 1, 2)", x.can(0, 1, 2), 1);
    }

    private static void platforms() {
        // By the platform he passes the one that comes through the train, though both go side by side.
        String text = "train coaches 2 minutes 3 every 1 fare 0 fine 0; coach 0 people 0 %s; coach 1 people 1 %s;"
            + "inspector at 1 down pace 1;";
        CoachAhead x = Checks.of(String.format(text, "doors", "doors"));
        CHECKS.due("at(0, 1)", x.at(0, 1), 1);
        CHECKS.due("at(0, 2)", x.at(0, 2), 0);
        path(x, 0, 0, 5);
        CHECKS.due("effort(0)", x.effort(0), 1);
        x = Checks.of(String.format(text, "doors", ""));
        CHECKS.due("safe()", x.safe(), 0);
        x = Checks.of(String.format(text, "", "doors"));
        CHECKS.due("safe()", x.safe(), 0);
        // MINUTE 0 is no STOP.
        x = Checks.of("train coaches 2 minutes 2 every 1 fare 0 fine 0; coach 0 people 0 doors;"
            + "coach 1 people 0 doors; inspector at 1 down pace 1;");
        CHECKS.due("safe()", x.safe(), 0);
        // Not from a LOO: from the COACH he gets away, from its LOO he does not.
        String doors = "train coaches 3 minutes 3 every 1 fare 0 fine 0; coach 0 people 0 doors loo;"
            + "coach 1 people 1; coach 2 people 9 doors loo; inspector at 1 down pace 1 knocks 1;";
        x = Checks.of(doors);
        CHECKS.due("can(0, 0, 1)", x.can(0, 0, 1), 1);
        CHECKS.due("can(0, 1, 1)", x.can(0, 1, 1), 0);
        // Not into a LOO: the other one is in the COACH there.
        x = Checks.of(doors + "inspector at 2 up pace 1;");
        CHECKS.due("can(0, 0, 1)", x.can(0, 0, 1), 0);
        CHECKS.due("can(2, 1, 1)", x.can(2, 1, 1), 1);
    }

    private static void loos() {
        // Into the LOO, and out of it to the COACH beside at once.
        CoachAhead x = Checks.of("train coaches 2 minutes 4 every 9 fare 0 fine 0; coach 0 people 1 loo; coach 1 people 0 loo;"
            + "inspector at 1 down pace 1; inspector at 1 up pace 1 knocks 3;");
        CHECKS.due("at(0, 1)", x.at(0, 1), 0);
        CHECKS.due("at(0, 3)", x.at(0, 3), -1);
        path(x, 0, 3, 0, 0);
        CHECKS.due("can(0, 1, 1)", x.can(0, 1, 1), 1);
        CHECKS.due("can(1, 1, 0)", x.can(1, 1, 0), 0);
        CHECKS.due("room(1)", x.room(1), 1);
        CHECKS.due("room(2)", x.room(2), 2);
        CHECKS.due("room(3)", x.room(3), 4);
        // Into the LOO of 0, out of it, and by the platform past the one that knocks.
        x = Checks.of("train coaches 2 minutes 7 every 1 fare 0 fine 0; coach 0 people 0 loo doors;"
            + "coach 1 people 3 doors; inspector at 1 down pace 2; inspector at 1 down pace 1 knocks 1;");
        path(x, 0, 0, 3, 3, 5, 0, 0);
        CHECKS.due("effort(0)", x.effort(0), 3);
    }

    private static void eightCoaches() {
        // Nothing is beyond COACH 7, and its number is the last by the platform.
        String eight = "train coaches 8 minutes 3 every 1 fare 0 fine 0; coach 0 people 9 loo doors;"
            + "coach 6 people 1; coach 7 people 0 doors;";
        CoachAhead x = Checks.of(eight + "inspector at 6 up pace 1;");
        CHECKS.due("at(0, 2)", x.at(0, 2), 7);
        path(x, 7, 0, 4);
        CHECKS.due("effort(7)", x.effort(7), 1);
        CHECKS.due("safe()", x.safe(), 191);
        CHECKS.due("where() in 7", Checks.of(eight + "rider in 7 stay sees 0 looks 0;").where(0, 2), 7);
        x = Checks.of("train coaches 8 minutes 3 every 1 fare 0 fine 0; coach 0 people 0 doors; coach 1 people 1;"
            + "coach 7 people 0 doors loo; inspector at 1 down pace 1;");
        path(x, 0, 0, 11);
        path(x, 7, 0, 0);
        CHECKS.due("can(7, 1, 0)", x.can(7, 1, 0), 1);
        CHECKS.due("room(2)", x.room(2), 8);
    }

    private static void oneMinute() {
        CoachAhead x = Checks.of("train coaches 2 minutes 1 every 1 fare 0 fine 0; inspector at 1 up pace 1;");
        CHECKS.due("safe()", x.safe(), 1);
        path(x, 0);
        CHECKS.due("effort(0)", x.effort(0), 0);
        CHECKS.due("effort(1)", x.effort(1), -1);
        CHECKS.due("lasts(0)", x.lasts(0), 1);
        CHECKS.due("lasts(1)", x.lasts(1), 0);
        CHECKS.due("room(0)", x.room(0), 1);
    }

    private static void marksThatMatter() {
        CoachAhead x = Checks.of(Trains.FOUR);
        CHECKS.due("matters(0)", x.matters(0), 9);
        CHECKS.due("matters(1)", x.matters(1), 0);
        CHECKS.due("doors(9)", x.doors(9), 3);
        CHECKS.due("doors(0)", x.doors(0), 1);
        CHECKS.due("doors(15)", x.doors(15), 3);
        CHECKS.due("doors(16)", x.doors(16), -2);
        CHECKS.due("doors(-1)", x.doors(-1), -2);
        CHECKS.due("loo()", x.loo(), -1);
        CHECKS.due("safe() as ever", x.safe(), 14);
        x.set(0, 2, 0);
        CHECKS.due("safe()", x.safe(), 2);
        CHECKS.due("matters(0)", x.matters(0), 0);
        CHECKS.due("matters(1)", x.matters(1), 2);
        CHECKS.due("loo()", x.loo(), 2);
        CHECKS.due("safe() as ever", x.safe(), 2);
        CHECKS.due("matters(2)", x.matters(2), -2);
        CHECKS.due("matters(-1)", x.matters(-1), -2);
    }

    private static void wrongInputs() {
        CoachAhead x = Checks.of(Trains.FOUR);
        int[] wrong = {-1, 8, 99, Integer.MIN_VALUE, Integer.MAX_VALUE};
        for (int w : wrong) {
            CHECKS.due("can", x.can(w, 0, 0), -2);
            CHECKS.due("can", x.can(0, w, 0), -2);
            CHECKS.due("can", x.can(0, 0, w), -2);
            CHECKS.due("path", x.path(w, 0), -2);
            CHECKS.due("path", x.path(1, w), -1);
            CHECKS.due("effort", x.effort(w), -2);
            CHECKS.due("lasts", x.lasts(w), -2);
            CHECKS.due("room", x.room(w), -2);
        }
        CHECKS.due("can(0, 1, 0): no LOO", x.can(0, 1, 0), -2);
        CHECKS.due("can(4, 0, 0)", x.can(4, 0, 0), -2);
        CHECKS.due("can(1, 2, 0)", x.can(1, 2, 0), -2);
        CHECKS.due("path(4, 0)", x.path(4, 0), -2);
        x = new CoachAhead();
        CHECKS.due("can", x.can(0, 0, 0), -2);
        CHECKS.due("safe", x.safe(), -2);
        CHECKS.due("path", x.path(0, 0), -2);
        CHECKS.due("effort", x.effort(0), -2);
        CHECKS.due("lasts", x.lasts(0), -2);
        CHECKS.due("room", x.room(0), -2);
        CHECKS.due("matters", x.matters(0), -2);
        CHECKS.due("doors", x.doors(0), -2);
        CHECKS.due("loo", x.loo(), -2);
    }
}
