/** Promises 10 to 21: STOPS, INSPECTORS, RIDERS by the TRIP. */
public final class TripTest {
    private static final Checks CHECKS = new Checks();

    public static void main(String[] args) {
        courses();
        turning();
        ridersOfFour();
        swapsAndSeveralInspectors();
        knocking();
        rounds();
        wrongInputs();
        CHECKS.close("TripTest");
    }

    private static void places(CoachAhead x, int rider, int... due) {
        for (int m = 0; m < due.length; m++) {
            CHECKS.due("where(" + rider + ", " + m + ")", x.where(rider, m), due[m]);
        }
        CHECKS.due("where(" + rider + ", END)", x.where(rider, due.length), -2);
    }

    private static void spots(CoachAhead x, int inspector, int... due) {
        for (int m = 0; m < due.length; m++) {
            CHECKS.due("at(" + inspector + ", " + m + ")", x.at(inspector, m), due[m]);
        }
        CHECKS.due("at(" + inspector + ", END)", x.at(inspector, due.length), -2);
    }

    private static void caught(CoachAhead x, int rider, int had, int by, int walks) {
        CHECKS.due("had(" + rider + ")", x.had(rider), had);
        CHECKS.due("by(" + rider + ")", x.by(rider), by);
        CHECKS.due("walks(" + rider + ")", x.walks(rider), walks);
    }

    private static void courses() {
        CoachAhead x = Checks.of(Trains.FOUR);
        int[] stops = {0, 0, 0, 1, 0, 0, 1, 0, -2};
        int[] watched = {1, 2, 2, 2, 4, 8, 0, 0, -2};
        for (int m = 0; m < stops.length; m++) {
            CHECKS.due("stop(" + m + ")", x.stop(m), stops[m]);
            CHECKS.due("watched(" + m + ")", x.watched(m), watched[m]);
        }
        spots(x, 0, 0, 1, 1, 1, 2, 3, -1, -1);
        int[] stays = {1, 3, 1, 1, -2};
        int[] comes = {0, 1, 4, 5, -2};
        for (int c = 0; c < stays.length; c++) {
            CHECKS.due("stays(0, " + c + ")", x.stays(0, c), stays[c]);
            CHECKS.due("comes(0, " + c + ")", x.comes(0, c), comes[c]);
        }
        CHECKS.due("never()", x.never(), 0);
        x = Checks.of(Trains.BARE);
        CHECKS.due("never() without INSPECTORS", x.never(), 7);
        CHECKS.due("watched(0) without INSPECTORS", x.watched(0), 0);
    }

    private static void turning() {
        CoachAhead x = Checks.of("train coaches 3 minutes 9 every 9 fare 0 fine 0; coach 2 people 4; coach 0 people 3;"
            + "inspector at 1 down pace 4 turns; inspector at 2 up pace 4; inspector at 2 up pace 4 turns;");
        spots(x, 0, 1, 0, 1, 2, 2, 1, 0, 1, 2);
        spots(x, 1, 2, 2, -1, -1, -1, -1, -1, -1, -1);
        spots(x, 2, 2, 2, 1, 0, 1, 2, 2, 1, 0);
        CHECKS.due("comes(1, 0)", x.comes(1, 0), -1);
        CHECKS.due("watched(0)", x.watched(0), 6);
        CHECKS.due("watched(3)", x.watched(3), 5);
        CHECKS.due("stays(0, 2)", x.stays(0, 2), 2);
        CHECKS.due("stays(0, 0)", x.stays(0, 0), 1);
        CHECKS.due("never()", x.never(), 0);
        x = Checks.of("train coaches 5 minutes 2 every 1 fare 0 fine 0; inspector at 2 up pace 1;"
            + "inspector at 0 down pace 1;");
        CHECKS.due("never()", x.never(), 18);
    }

    private static void ridersOfFour() {
        CoachAhead x = Checks.of(Trains.FOUR);
        places(x, 0, 2, 2, 3, 3, 3, 3, 3, 3);
        places(x, 1, 1, 11, 11, 11, 11, 11, 1, 1);
        places(x, 2, 0, 0, 0, 0, 3, 3, 3, 3);
        places(x, 3, 3, 3, 3, 3, 3, 3, 3, 3);
        caught(x, 0, 5, 0, 1);
        caught(x, 1, -1, -1, 0);
        caught(x, 2, 0, 0, 0);
        caught(x, 3, 5, 0, 0);
        CHECKS.due("fined()", x.fined(), 13);
        CHECKS.due("brings()", x.brings(), 183);
    }

    private static void swapsAndSeveralInspectors() {
        String head = "train coaches 4 minutes 4 every 9 fare 5 fine 9;";
        // FORWARD walks up from INSPECTOR 0, into the one that leaves for his COACH.
        CoachAhead x = Checks.of(head + "inspector at 0 up pace 1; inspector at 2 down pace 1;"
            + "rider in 1 forward sees 1 looks 0; rider in 1 forward sees 1 looks 0 ticket;"
            + "rider in 3 forward sees 7 looks 0; rider in 0 forward sees 0 looks 0;");
        places(x, 0, 1, 2, 3, 3);
        caught(x, 0, 1, 1, 1);
        CHECKS.due("fined()", x.fined(), 13);
        CHECKS.due("brings()", x.brings(), 32);
        // Of his own COACH: to the greater.
        places(x, 3, 0, 1, 2, 3);
        caught(x, 3, 0, 0, 0);
        // Of like near ones the lesser COACH: from 2 in 1 and 3 he goes up.
        x = Checks.of(head + "inspector at 3 down pace 1; inspector at 1 up pace 1;"
            + "rider in 2 forward sees 1 looks 0;");
        CHECKS.due("where(0, 1)", x.where(0, 1), 3);
        caught(x, 0, 1, 0, 1);
        // The nearest, not the first: one is in 0, one in 4, so from 3 he goes down.
        x = Checks.of("train coaches 6 minutes 2 every 9 fare 5 fine 9; inspector at 0 up pace 1;"
            + "inspector at 4 up pace 1; rider in 3 forward sees 5 looks 0;");
        CHECKS.due("where(0, 1)", x.where(0, 1), 2);
        // Both in his COACH: the least.
        x = Checks.of(head + "inspector at 0 up pace 1; inspector at 2 up pace 1; inspector at 2 down pace 1;"
            + "rider in 2 stay sees 0 looks 0;");
        caught(x, 0, 0, 1, 0);
        // A walk to a COACH that an INSPECTOR leaves the other way meets nobody.
        x = Checks.of("train coaches 3 minutes 2 every 9 fare 5 fine 9; inspector at 1 up pace 1;"
            + "rider in 2 stay sees 0 looks 0; rider in 0 forward sees 0 looks 0;");
        caught(x, 0, 1, 0, 0);
        caught(x, 1, -1, -1, 0);
    }

    private static void knocking() {
        String text = "train coaches 3 minutes 6 every 9 fare 5 fine 9; coach 1 people 2 loo;"
            + "inspector at 0 up pace 1 %s; rider in 1 loo sees 1 looks 0; rider in 2 loo sees 2 looks 0;"
            + "rider in 1 loo sees 0 looks 0;";
        CoachAhead x = Checks.of(String.format(text, ""));
        places(x, 0, 1, 11, 11, 11, 11, 11);
        caught(x, 0, -1, -1, 0);
        // Without a LOO he stays.
        places(x, 1, 2, 2, 2, 2, 2, 2);
        caught(x, 1, 4, 0, 0);
        // He sees it only when it has him.
        places(x, 2, 1, 1, 11, 11, 11, 1);
        caught(x, 2, 1, 0, 0);
        x = Checks.of(String.format(text, "knocks 1"));
        caught(x, 0, 1, 0, 0);
        x = Checks.of(String.format(text, "knocks 0"));
        caught(x, 0, -1, -1, 0);
        CHECKS.due("fined()", x.fined(), 6);
    }

    private static void rounds() {
        String doors = "coach 0 people 9 doors; coach 2 people 0 doors; coach 4 people 0 doors; coach 5 people 0 doors;";
        // It stays in 0 for ten MINUTES: at the STOP in 1 the farthest with doors is 5.
        CoachAhead x = Checks.of("train coaches 6 minutes 4 every 1 fare 5 fine 9;" + doors
            + "inspector at 0 up pace 1; rider in 2 round sees 0 looks 0; rider in 1 round sees 7 looks 0;"
            + "rider in 5 round sees 0 looks 0;");
        places(x, 0, 2, 2, 5, 5);
        caught(x, 0, -1, -1, 1);
        places(x, 1, 1, 1, 1, 1);
        places(x, 2, 5, 5, 5, 5);
        // Two INSPECTORS, in 0 and 5: of COACHES with doors 2 is two from the nearest, 4 is one.
        x = Checks.of("train coaches 6 minutes 3 every 1 fare 5 fine 9;" + doors + "coach 5 people 9 doors;"
            + "inspector at 0 up pace 1; inspector at 5 down pace 1; rider in 4 round sees 0 looks 0;");
        places(x, 0, 4, 4, 2);
        // Of several the least: in 3, the COACHES 0 and 6 are three away.
        x = Checks.of("train coaches 7 minutes 3 every 1 fare 5 fine 9; coach 0 people 0 doors; coach 6 people 0 doors;"
            + "coach 4 people 0 doors; coach 3 people 9; inspector at 3 up pace 1; rider in 4 round sees 0 looks 0;"
            + "rider in 6 round sees 0 looks 0;");
        places(x, 0, 4, 4, 0);
        places(x, 1, 6, 6, 6);
        // No INSPECTOR there: he stays. No STOP in MINUTE 0.
        x = Checks.of("train coaches 2 minutes 3 every 1 fare 5 fine 9; coach 0 people 0 doors; coach 1 people 0 doors;"
            + "inspector at 1 up pace 1; rider in 1 round sees 7 looks 0;");
        places(x, 0, 1, 1, 1);
        caught(x, 0, 0, 0, 0);
    }

    private static void wrongInputs() {
        CoachAhead x = Checks.of(Trains.FOUR);
        int[] wrong = {-1, 99, Integer.MIN_VALUE, Integer.MAX_VALUE};
        for (int w : wrong) {
            CHECKS.due("stop", x.stop(w), -2);
            CHECKS.due("at", x.at(w, 0), -2);
            CHECKS.due("at", x.at(0, w), -2);
            CHECKS.due("stays", x.stays(w, 0), -2);
            CHECKS.due("stays", x.stays(0, w), -2);
            CHECKS.due("comes", x.comes(w, 0), -2);
            CHECKS.due("comes", x.comes(0, w), -2);
            CHECKS.due("watched", x.watched(w), -2);
            CHECKS.due("where", x.where(w, 0), -2);
            CHECKS.due("where", x.where(0, w), -2);
            CHECKS.due("had", x.had(w), -2);
            CHECKS.due("by", x.by(w), -2);
            CHECKS.due("walks", x.walks(w), -2);
        }
        CHECKS.due("had(4)", x.had(4), -2);
        CHECKS.due("at(1, 0)", x.at(1, 0), -2);
        x = new CoachAhead();
        CHECKS.due("fined()", x.fined(), -2);
        CHECKS.due("brings()", x.brings(), -2);
        CHECKS.due("never()", x.never(), -2);
        CHECKS.due("had(0)", x.had(0), -2);
        x = Checks.of(Trains.BARE);
        CHECKS.due("fined()", x.fined(), 0);
        CHECKS.due("brings()", x.brings(), 0);
    }
}
