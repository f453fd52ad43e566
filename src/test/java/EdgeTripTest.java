/** The edges of Terms II and IV and of promises 10 to 21: MINUTES, STOPS, courses, RULES, being HAD. */
public final class EdgeTripTest {
    private static final Checks CHECKS = new Checks();

    public static void main(String[] args) {
        stops();
        firstAndLastMinute();
        staysCut();
        goneInWhichMinute();
        turnsAtBothEnds();
        comesFirst();
        watchedAndNever();
        seesNoFarther();
        nearestOfLikeOnes();
        forwardAtTheEnds();
        forwardFromHisOwnCoach();
        hidesAndComesOut();
        roundOnlyInStopsWithDoors();
        roundIfFarther();
        roundWithoutInspectors();
        hadInTheFirstAndLastMinute();
        hadByKnocks();
        hadOnTheWay();
        byTheLeast();
        finedAndBrings();
        walksTillHad();
        whoIsHadGoesOn();
        CHECKS.close("EdgeTripTest");
    }

    private static String head(int coaches, int minutes, int every) {
        return "train coaches " + coaches + " minutes " + minutes + " every " + every + " fare 5 fine 9;";
    }

    private static void places(CoachAhead x, int rider, int... due) {
        CHECKS.due("minutes", x.count(1), due.length);
        for (int m = 0; m < due.length; m++) {
            CHECKS.due("where(" + rider + ", " + m + ")", x.where(rider, m), due[m]);
        }
    }

    private static void spots(CoachAhead x, int inspector, int... due) {
        CHECKS.due("minutes", x.count(1), due.length);
        for (int m = 0; m < due.length; m++) {
            CHECKS.due("at(" + inspector + ", " + m + ")", x.at(inspector, m), due[m]);
        }
    }

    private static void caught(CoachAhead x, int rider, int had, int by, int walks) {
        CHECKS.due("had(" + rider + ")", x.had(rider), had);
        CHECKS.due("by(" + rider + ")", x.by(rider), by);
        CHECKS.due("walks(" + rider + ")", x.walks(rider), walks);
    }

    // ---- promise 10 ----

    private static void stops() {
        for (int every = 1; every <= 20; every++) {
            for (int minutes = 1; minutes <= 40; minutes += 13) {
                CoachAhead x = Checks.of(head(2, minutes, every));
                for (int m = 0; m < minutes; m++) {
                    boolean stop = m == every || m == 2 * every || m > 2 * every && m % every == 0;
                    CHECKS.due("stop(" + m + ") every " + every, x.stop(m), stop ? 1 : 0);
                }
                CHECKS.due("the END is no MINUTE", x.stop(minutes), -2);
                CHECKS.due("stop(-1)", x.stop(-1), -2);
                CHECKS.due("stop(-every)", x.stop(-every), -2);
            }
        }
        CHECKS.due("every as many as MINUTES: none", Checks.of(head(2, 20, 20)).stop(19), 0);
        CHECKS.due("the last MINUTE", Checks.of(head(2, 21, 20)).stop(20), 1);
    }

    // ---- promises 11 to 15 ----

    private static void firstAndLastMinute() {
        CoachAhead x = Checks.of(head(8, 40, 1) + "coach 7 people 99; inspector at 7 up pace 2; inspector at 7 up pace 3;");
        CHECKS.due("at(0, 0)", x.at(0, 0), 7);
        CHECKS.due("at(0, 39): 50 MINUTES", x.at(0, 39), 7);
        CHECKS.due("at(0, 40)", x.at(0, 40), -2);
        CHECKS.due("at(1, 33): 34 MINUTES", x.at(1, 33), 7);
        CHECKS.due("at(1, 34)", x.at(1, 34), -1);
        CHECKS.due("at(1, 39)", x.at(1, 39), -1);
        CHECKS.due("at(2, 0)", x.at(2, 0), -2);
        x = Checks.of(head(2, 1, 1) + "inspector at 1 down pace 1;");
        spots(x, 0, 1);
        CHECKS.due("at(0, 1)", x.at(0, 1), -2);
    }

    private static void staysCut() {
        int[][] stays = {{0, 1, 1}, {0, 20, 1}, {1, 1, 2}, {1, 2, 1}, {19, 20, 1}, {20, 20, 2}, {39, 20, 2}, {40, 20, 3},
            {99, 1, 100}, {99, 20, 5}, {99, 99 / 5, 6}, {98, 7, 15}, {97, 7, 14}};
        for (int[] s : stays) {
            CoachAhead x = Checks.of(head(2, 40, 1) + "coach 1 people " + s[0] + "; inspector at 1 down pace " + s[1] + ";");
            CHECKS.due("stays of " + s[0] + " by " + s[1], x.stays(0, 1), s[2]);
            CHECKS.due("stays where nobody is", x.stays(0, 0), 1);
            CHECKS.due("it leaves then", x.comes(0, 0), s[2] < 40 ? s[2] : -1);
        }
    }

    private static void goneInWhichMinute() {
        CoachAhead x = Checks.of(head(3, 5, 1) + "coach 0 people 1; inspector at 1 down pace 1; inspector at 0 up pace 1;"
            + "inspector at 0 down pace 1;");
        spots(x, 0, 1, 0, 0, -1, -1);
        spots(x, 1, 0, 0, 1, 2, -1);
        spots(x, 2, 0, 0, -1, -1, -1);
    }

    private static void turnsAtBothEnds() {
        CoachAhead x = Checks.of(head(2, 6, 1) + "inspector at 0 up pace 1 turns; inspector at 0 down pace 1 turns;"
            + "inspector at 1 up pace 1 turns;");
        spots(x, 0, 0, 1, 0, 1, 0, 1);
        spots(x, 1, 0, 1, 0, 1, 0, 1);
        spots(x, 2, 1, 0, 1, 0, 1, 0);
        x = Checks.of(head(3, 9, 1) + "coach 2 people 1; inspector at 1 up pace 1 turns; inspector at 2 up pace 1 turns;"
            + "inspector at 2 down pace 1 turns;");
        // It stays in the last one once, then goes the other WAY.
        spots(x, 0, 1, 2, 2, 1, 0, 1, 2, 2, 1);
        spots(x, 1, 2, 2, 1, 0, 1, 2, 2, 1, 0);
        spots(x, 2, 2, 2, 1, 0, 1, 2, 2, 1, 0);
    }

    private static void comesFirst() {
        CoachAhead x = Checks.of(head(4, 4, 1) + "inspector at 0 up pace 1; inspector at 3 down pace 1 turns;"
            + "inspector at 2 down pace 1;");
        int[][] comes = {{0, 1, 2, 3}, {3, 2, 1, 0}, {2, 1, 0, -1}};
        for (int i = 0; i < 3; i++) {
            for (int c = 0; c < 4; c++) {
                CHECKS.due("comes(" + i + ", " + c + ")", x.comes(i, c), comes[i][c]);
            }
        }
        // One MINUTE fewer, and it does not come in time.
        x = Checks.of(head(4, 3, 1) + "inspector at 0 up pace 1;");
        CHECKS.due("comes(0, 2)", x.comes(0, 2), 2);
        CHECKS.due("comes(0, 3)", x.comes(0, 3), -1);
        // Where it comes twice, the first time.
        x = Checks.of(head(2, 5, 1) + "inspector at 0 up pace 1 turns;");
        CHECKS.due("comes(0, 1)", x.comes(0, 1), 1);
        CHECKS.due("comes(0, 0)", x.comes(0, 0), 0);
        x = Checks.of(head(8, 40, 1) + "inspector at 0 down pace 1;");
        CHECKS.due("comes(0, 7)", x.comes(0, 7), -1);
        CHECKS.due("comes(0, 8)", x.comes(0, 8), -2);
    }

    private static void watchedAndNever() {
        CoachAhead x = Checks.of(head(8, 40, 1));
        CHECKS.due("watched(0)", x.watched(0), 0);
        CHECKS.due("watched(39)", x.watched(39), 0);
        CHECKS.due("watched(40)", x.watched(40), -2);
        CHECKS.due("watched(-1)", x.watched(-1), -2);
        CHECKS.due("never() of all", x.never(), 255);
        x = Checks.of(head(8, 40, 1) + "coach 7 people 99; inspector at 7 up pace 1; inspector at 7 down pace 1;"
            + "inspector at 0 down pace 1;");
        CHECKS.due("watched(0)", x.watched(0), 129);
        CHECKS.due("watched(1), two in one", x.watched(1), 128);
        CHECKS.due("watched(39)", x.watched(39), 128);
        CHECKS.due("never()", x.never(), 126);
        x = Checks.of(head(2, 2, 1) + "inspector at 0 up pace 1;");
        CHECKS.due("never() of none", x.never(), 0);
        x = Checks.of(head(2, 1, 1) + "inspector at 0 up pace 1;");
        CHECKS.due("never() in one MINUTE", x.never(), 2);
    }

    // ---- Term IV ----

    private static void seesNoFarther() {
        // The INSPECTOR stays in 0; RIDERS sit in COACH 1 to 6, each sees as far as it is, or one less.
        StringBuilder far = new StringBuilder(head(8, 2, 1) + "coach 0 people 99; inspector at 0 up pace 1;");
        StringBuilder near = new StringBuilder(far);
        for (int c = 1; c <= 6; c++) {
            far.append("rider in ").append(c).append(" forward sees ").append(c).append(" looks 0;");
            near.append("rider in ").append(c).append(" forward sees ").append(c - 1).append(" looks 0;");
        }
        CoachAhead x = Checks.of(far.toString());
        CoachAhead y = Checks.of(near.toString());
        for (int c = 1; c <= 6; c++) {
            CHECKS.due("he sees it from " + c, x.where(c - 1, 1), c + 1);
            CHECKS.due("he does not see it from " + c, y.where(c - 1, 1), c);
        }
        // From below too; seven COACHES away.
        x = Checks.of(head(8, 2, 1) + "coach 0 people 0 loo; coach 7 people 9 loo; inspector at 7 down pace 1;"
            + "rider in 0 loo sees 7 looks 0; rider in 0 loo sees 6 looks 0; rider in 7 loo sees 0 looks 0;");
        places(x, 0, 0, 10);
        places(x, 1, 0, 0);
        places(x, 2, 7, 17);
        // One that is gone is not seen.
        x = Checks.of(head(8, 3, 1) + "inspector at 0 down pace 1; rider in 0 forward sees 7 looks 0;"
            + "rider in 1 forward sees 7 looks 0;");
        places(x, 0, 0, 1, 1);
        places(x, 1, 1, 2, 2);
    }

    private static void nearestOfLikeOnes() {
        // In 1 and 5; from 3 the lesser is 1, so up; from 2 the nearest is 1, from 4 it is 5, so down.
        for (int swap = 0; swap < 2; swap++) {
            String one = "inspector at " + (swap == 0 ? 1 : 5) + " up pace 1;";
            String other = "inspector at " + (swap == 0 ? 5 : 1) + " up pace 1;";
            CoachAhead x = Checks.of(head(8, 2, 1) + one + other + "rider in 3 forward sees 2 looks 0;"
                + "rider in 2 forward sees 7 looks 0; rider in 4 forward sees 7 looks 0; rider in 6 forward sees 7 looks 0;"
                + "rider in 3 forward sees 1 looks 0;");
            int[] due = {4, 3, 3, 7, 3};
            for (int r = 0; r < due.length; r++) {
                CHECKS.due("where(" + r + ", 1)", x.where(r, 1), due[r]);
            }
        }
    }

    private static void forwardAtTheEnds() {
        CoachAhead x = Checks.of(head(4, 3, 1) + "coach 1 people 99; coach 2 people 99; inspector at 2 up pace 1;"
            + "inspector at 1 up pace 1; rider in 3 forward sees 1 looks 0; rider in 0 forward sees 1 looks 0;");
        places(x, 0, 3, 3, 3);
        places(x, 1, 0, 0, 0);
    }

    private static void forwardFromHisOwnCoach() {
        CoachAhead x = Checks.of(head(3, 3, 1) + "coach 2 people 9; coach 0 people 9; inspector at 2 up pace 1;"
            + "inspector at 0 up pace 1; rider in 2 forward sees 0 looks 0; rider in 0 forward sees 0 looks 0;");
        // From the greatest there is none greater: he stays.
        places(x, 0, 2, 2, 2);
        places(x, 1, 0, 1, 1);
    }

    private static void hidesAndComesOut() {
        CoachAhead x = Checks.of(head(3, 6, 1) + "coach 1 people 1 loo; inspector at 0 up pace 1;"
            + "rider in 1 loo sees 1 looks 0; rider in 1 loo sees 0 looks 0; rider in 2 loo sees 7 looks 0;"
            + "rider in 1 stay sees 7 looks 0; rider in 1 round sees 7 looks 0;");
        places(x, 0, 1, 11, 11, 11, 11, 1);
        places(x, 1, 1, 1, 11, 11, 1, 1);
        places(x, 2, 2, 2, 2, 2, 2, 2);
        places(x, 3, 1, 1, 1, 1, 1, 1);
        places(x, 4, 1, 1, 1, 1, 1, 1);
        caught(x, 0, -1, -1, 0);
        caught(x, 1, 1, 0, 0);
    }

    private static void roundOnlyInStopsWithDoors() {
        String train = head(4, 5, 2) + "coach 0 people 99 doors; coach 1 people 0 doors; coach 3 people 0 doors;"
            + "inspector at 0 up pace 1;";
        CoachAhead x = Checks.of(train + "rider in 1 round sees 0 looks 0; rider in 2 round sees 7 looks 0;"
            + "rider in 0 round sees 0 looks 0;");
        places(x, 0, 1, 1, 1, 3, 3);
        places(x, 1, 2, 2, 2, 2, 2);
        places(x, 2, 0, 0, 0, 3, 3);
        // No STOP in MINUTE 0, none in the last MINUTE that could still be used.
        x = Checks.of(head(4, 2, 1) + train.substring(train.indexOf("coach 0")) + "rider in 1 round sees 7 looks 0;");
        places(x, 0, 1, 1);
        // Only COACHES with doors: 3 has none now.
        x = Checks.of(train + "coach 3 people 0; rider in 0 round sees 0 looks 0;");
        places(x, 0, 0, 0, 0, 1, 1);
    }

    private static void roundIfFarther() {
        // In 3: COACHES 1 and 5 are alike far, 2 and 4 are nearer.
        String train = head(7, 3, 1) + "coach 3 people 99 doors; coach 1 people 0 doors; coach 5 people 0 doors;"
            + "coach 2 people 0 doors; inspector at 3 up pace 1;";
        CoachAhead x = Checks.of(train + "rider in 1 round sees 0 looks 0; rider in 5 round sees 0 looks 0;"
            + "rider in 2 round sees 0 looks 0; rider in 3 round sees 0 looks 0;");
        places(x, 0, 1, 1, 1);
        places(x, 1, 5, 5, 5);
        places(x, 2, 2, 2, 1);
        places(x, 3, 3, 3, 1);
        // The nearest to each COACH counts: beside 3 one more is in 0, so 5 is two away, 1 is one away.
        x = Checks.of(train + "coach 0 people 99; inspector at 0 up pace 1; rider in 1 round sees 0 looks 0;"
            + "rider in 2 round sees 0 looks 0;");
        places(x, 0, 1, 1, 5);
        places(x, 1, 2, 2, 5);
    }

    private static void roundWithoutInspectors() {
        String doors = "coach 0 people 0 doors; coach 1 people 0 doors; coach 2 people 0 doors;";
        CoachAhead x = Checks.of(head(3, 4, 1) + doors + "rider in 1 round sees 7 looks 0;");
        places(x, 0, 1, 1, 1, 1);
        x = Checks.of(head(3, 4, 1) + doors + "inspector at 2 up pace 1; rider in 1 round sees 7 looks 0;");
        places(x, 0, 1, 1, 1, 1);
        // One that is gone does not count beside one that is there.
        x = Checks.of(head(3, 4, 1) + doors + "coach 2 people 99 doors; inspector at 0 down pace 1; inspector at 2 up pace 1;"
            + "rider in 1 round sees 7 looks 0;");
        places(x, 0, 1, 1, 0, 0);
    }

    // ---- promises 16 to 21 ----

    private static void hadInTheFirstAndLastMinute() {
        String train = "inspector at 0 up pace 1; rider in 0 stay sees 0 looks 0; rider in 3 stay sees 0 looks 0;";
        CoachAhead x = Checks.of(head(4, 4, 9) + train);
        caught(x, 0, 0, 0, 0);
        caught(x, 1, 3, 0, 0);
        x = Checks.of(head(4, 3, 9) + train);
        caught(x, 1, -1, -1, 0);
        CHECKS.due("where(1, 2)", x.where(1, 2), 3);
        CHECKS.due("where(1, 3)", x.where(1, 3), -2);
        x = Checks.of(head(2, 1, 1) + "inspector at 1 up pace 1; rider in 1 forward sees 7 looks 0;"
            + "rider in 0 forward sees 7 looks 0;");
        caught(x, 0, 0, 0, 0);
        caught(x, 1, -1, -1, 0);
    }

    private static void hadByKnocks() {
        String train = head(2, 4, 9) + "coach 1 people 0 loo; inspector at 0 up pace 1 knocks %d;"
            + "rider in 1 loo sees 1 looks 0;";
        caught(Checks.of(String.format(train, 0)), 0, -1, -1, 0);
        caught(Checks.of(String.format(train, 1)), 0, 1, 0, 0);
        caught(Checks.of(String.format(train, 100)), 0, 1, 0, 0);
        // Of two in his COACH the one that knocks has him in the LOO.
        CoachAhead x = Checks.of(head(2, 4, 9) + "coach 1 people 0 loo; inspector at 0 up pace 1;"
            + "inspector at 0 up pace 1 knocks 1; rider in 1 loo sees 1 looks 0;");
        caught(x, 0, 1, 1, 0);
        // In the LOO to which it comes while he is there already, and while it stays on.
        x = Checks.of(head(3, 6, 9) + "coach 1 people 2 loo; inspector at 0 up pace 1 knocks 1;"
            + "rider in 1 loo sees 0 looks 0;");
        places(x, 0, 1, 1, 11, 11, 11, 1);
        caught(x, 0, 1, 0, 0);
    }

    private static void hadOnTheWay() {
        // In 1 he sees the one in 0, and goes up; the other one leaves 2 for 1 just then.
        CoachAhead x = Checks.of(head(4, 3, 9) + "coach 0 people 9; inspector at 0 up pace 1; inspector at 2 down pace 1;"
            + "rider in 1 forward sees 1 looks 0;");
        CHECKS.due("where(0, 1)", x.where(0, 1), 2);
        caught(x, 0, 1, 1, 1);
        // One that stays in 2 a MINUTE more has him there; one that leaves 2 the other way does not.
        x = Checks.of(head(4, 3, 9) + "coach 0 people 9; coach 2 people 1; inspector at 0 up pace 1;"
            + "inspector at 2 down pace 1; rider in 1 forward sees 1 looks 0;");
        caught(x, 0, 1, 1, 1);
        x = Checks.of(head(5, 2, 9) + "coach 0 people 9; inspector at 0 up pace 1; inspector at 2 up pace 1;"
            + "rider in 1 forward sees 1 looks 0;");
        caught(x, 0, -1, -1, 1);
        // Who stays is had only when it is there.
        x = Checks.of(head(3, 2, 9) + "inspector at 2 down pace 1; rider in 0 stay sees 0 looks 0;"
            + "rider in 1 stay sees 0 looks 0;");
        caught(x, 0, -1, -1, 0);
        caught(x, 1, 1, 0, 0);
    }

    private static void byTheLeast() {
        String in = "inspector at 1 up pace 1;";
        caught(Checks.of(head(2, 1, 1) + in.repeat(3) + "rider in 1 stay sees 0 looks 0;"), 0, 0, 0, 0);
        caught(Checks.of(head(2, 1, 1) + "inspector at 0 up pace 1;" + in.repeat(2) + "rider in 1 stay sees 0 looks 0;"),
            0, 0, 1, 0);
        caught(Checks.of(head(2, 1, 1) + "inspector at 0 up pace 1;".repeat(2) + in + "rider in 1 stay sees 0 looks 0;"),
            0, 0, 2, 0);
        // In one MINUTE one meets him on the way, one is in the COACH he comes to: the lesser number, either way.
        String way = "inspector at 2 down pace 1;";
        String there = "inspector at 3 down pace 1;";
        String rest = "rider in 1 forward sees 1 looks 0;";
        CoachAhead x = Checks.of(head(5, 2, 9) + there + way + "inspector at 0 up pace 1;" + rest);
        CHECKS.due("where(0, 1)", x.where(0, 1), 2);
        caught(x, 0, 1, 0, 1);
        x = Checks.of(head(5, 2, 9) + way + there + "inspector at 0 up pace 1;" + rest);
        caught(x, 0, 1, 0, 1);
        x = Checks.of(head(5, 2, 9) + "inspector at 0 up pace 1;" + way + there + rest);
        caught(x, 0, 1, 1, 1);
        // The first MINUTE counts ahead of the lesser number.
        x = Checks.of(head(3, 3, 9) + "inspector at 0 up pace 1; inspector at 1 down pace 1; rider in 1 stay sees 0 looks 0;");
        caught(x, 0, 0, 1, 0);
    }

    private static void finedAndBrings() {
        String rider = "rider in 0 stay sees 0 looks 0;";
        String ticket = "rider in 0 stay sees 0 looks 0 ticket;";
        String most = "train coaches 2 minutes 1 every 1 fare 99 fine 999; inspector at 0 up pace 1;";
        money(most + rider.repeat(6), 63, 5994);
        money(most + ticket.repeat(6), 0, 594);
        money(most, 0, 0);
        money(most + rider.repeat(5) + ticket, 31, 5094);
        money(most + "rider in 1 stay sees 0 looks 0;".repeat(6), 0, 0);
        money(most + "rider in 1 stay sees 0 looks 0 ticket;".repeat(2) + rider, 4, 1197);
        // Once, however often he is HAD and by how many.
        money("train coaches 2 minutes 40 every 1 fare 1 fine 7; coach 0 people 99;" + "inspector at 0 up pace 1;".repeat(3)
            + rider + ticket, 1, 8);
        money("train coaches 2 minutes 1 every 1 fare 0 fine 0; inspector at 0 up pace 1;" + rider + ticket, 1, 0);
    }

    private static void money(String text, int fined, int brings) {
        CoachAhead x = Checks.of(text);
        CHECKS.due("brings() of " + text, x.brings(), brings);
        x = Checks.of(text);
        CHECKS.due("fined() of " + text, x.fined(), fined);
    }

    private static void walksTillHad() {
        // It follows him up to COACH 7, where he is HAD in the end.
        CoachAhead x = Checks.of(head(8, 9, 9) + "inspector at 0 up pace 1; rider in 1 forward sees 1 looks 0;");
        places(x, 0, 1, 2, 3, 4, 5, 6, 7, 7, 7);
        caught(x, 0, 7, 0, 6);
        // HAD in MINUTE 0: none, though he goes on.
        x = Checks.of(head(8, 9, 9) + "inspector at 0 up pace 1; rider in 0 forward sees 1 looks 0;");
        places(x, 0, 0, 1, 2, 3, 4, 5, 6, 7, 7);
        caught(x, 0, 0, 0, 0);
        // Never HAD: each change to the END, the last one in the last MINUTE.
        x = Checks.of(head(8, 3, 9) + "inspector at 0 up pace 1; rider in 1 forward sees 1 looks 0;");
        places(x, 0, 1, 2, 3);
        caught(x, 0, -1, -1, 2);
        // Into a LOO and out of it is no change of COACH.
        x = Checks.of(head(3, 6, 9) + "coach 1 people 0 loo; inspector at 0 up pace 1; rider in 1 loo sees 1 looks 0;");
        places(x, 0, 1, 11, 11, 11, 1, 1);
        caught(x, 0, -1, -1, 0);
    }

    private static void whoIsHadGoesOn() {
        CoachAhead x = Checks.of(head(4, 4, 9) + "inspector at 1 up pace 1; rider in 1 forward sees 0 looks 0;");
        places(x, 0, 1, 2, 3, 3);
        caught(x, 0, 0, 0, 0);
    }
}
