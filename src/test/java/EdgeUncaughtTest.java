/** The edges of Terms II and III and of promises 22 to 27 and 51 to 53: who can stay UNCAUGHT, how, and why. */
public final class EdgeUncaughtTest {
    private static final Checks CHECKS = new Checks();

    public static void main(String[] args) {
        canInTheFirstAndLastMinute();
        canInLoos();
        canByThePlatform();
        safeNoneAndAll();
        pathsOfOneAndOfForty();
        leastRow();
        stepsOutOfALoo();
        effortNoneAndSome();
        lastsToTheEnd();
        roomFullAndEmpty();
        roomByThePlatform();
        mattersAlone();
        doorsOfASet();
        looMore();
        CHECKS.close("EdgeUncaughtTest");
    }

    private static String head(int coaches, int minutes, int every) {
        return "train coaches " + coaches + " minutes " + minutes + " every " + every + " fare 0 fine 0;";
    }

    private static void path(CoachAhead x, int coach, int... due) {
        CHECKS.due("minutes", x.count(1), due.length + 1);
        for (int i = 0; i < due.length; i++) {
            CHECKS.due("path(" + coach + ", " + i + ")", x.path(coach, i), due[i]);
        }
        int[] beyond = {-1, due.length, due.length + 1, Integer.MIN_VALUE, Integer.MAX_VALUE};
        for (int i : beyond) {
            CHECKS.due("path(" + coach + ", " + i + ")", x.path(coach, i), -1);
        }
    }

    // ---- promises 22 and 23 ----

    private static void canInTheFirstAndLastMinute() {
        CoachAhead x = Checks.of(head(2, 3, 9) + "inspector at 0 up pace 1;");
        int[][] can = {{0, 0}, {1, 0}, {1, 1}};
        for (int m = 0; m < 3; m++) {
            for (int c = 0; c < 2; c++) {
                CHECKS.due("can(" + c + ", 0, " + m + ")", x.can(c, 0, m), can[m][c]);
            }
        }
        CHECKS.due("can in the END", x.can(0, 0, 3), -2);
        CHECKS.due("can(0, 0, -1)", x.can(0, 0, -1), -2);
        x = Checks.of(head(2, 2, 9) + "inspector at 0 up pace 1;");
        CHECKS.due("can, HAD in the last MINUTE", x.can(1, 0, 1), 0);
        CHECKS.due("can, not HAD in the last MINUTE", x.can(0, 0, 1), 1);
        x = Checks.of(head(8, 40, 1));
        CHECKS.due("can(7, 0, 39)", x.can(7, 0, 39), 1);
        CHECKS.due("can(7, 0, 40)", x.can(7, 0, 40), -2);
        CHECKS.due("can(8, 0, 39)", x.can(8, 0, 39), -2);
    }

    private static void canInLoos() {
        String train = head(8, 2, 9) + "coach 7 people 9 loo; coach 0 people 9 loo; inspector at 7 up pace 1 %s;"
            + "inspector at 0 up pace 1;";
        CoachAhead x = Checks.of(String.format(train, "knocks 0"));
        CHECKS.due("can(7, 1, 0)", x.can(7, 1, 0), 1);
        CHECKS.due("can(7, 0, 0)", x.can(7, 0, 0), 0);
        CHECKS.due("can(7, 2, 0)", x.can(7, 2, 0), -2);
        CHECKS.due("can(7, -1, 0)", x.can(7, -1, 0), -2);
        CHECKS.due("no LOO in 6", x.can(6, 1, 0), -2);
        x.set(6, 1, 1);
        CHECKS.due("a LOO in 6", x.can(6, 1, 0), 1);
        x.undo();
        CHECKS.due("no LOO in 6 any more", x.can(6, 1, 0), -2);
        x.set(7, 1, 0);
        CHECKS.due("no LOO in 7 any more", x.can(7, 1, 0), -2);
        // It is the one in his COACH that has to knock.
        x = Checks.of(String.format(train, "knocks 1"));
        CHECKS.due("can(7, 1, 0)", x.can(7, 1, 0), 0);
        CHECKS.due("can(7, 1, 1)", x.can(7, 1, 1), 0);
        CHECKS.due("can(0, 1, 0)", x.can(0, 1, 0), 1);
        x = Checks.of(String.format(train, "knocks 100"));
        CHECKS.due("can(7, 1, 1)", x.can(7, 1, 1), 0);
    }

    private static void canByThePlatform() {
        // It stays in 1 till MINUTE 1 and is in 0 in MINUTE 2; from 0 only the platform leads away.
        String front = "coach 1 people 1; inspector at 1 down pace 1; coach ";
        CoachAhead x = Checks.of(head(3, 3, 1) + front + "0 people 0 doors; coach 2 people 0 doors;");
        CHECKS.due("can(0, 0, 1) in a STOP", x.can(0, 0, 1), 1);
        CHECKS.due("can(0, 0, 0)", x.can(0, 0, 0), 1);
        x = Checks.of(head(3, 3, 2) + front + "0 people 0 doors; coach 2 people 0 doors;");
        CHECKS.due("can(0, 0, 1) in no STOP", x.can(0, 0, 1), 0);
        x = Checks.of(head(3, 3, 1) + front + "0 people 0 doors;");
        CHECKS.due("can(0, 0, 1), no doors elsewhere", x.can(0, 0, 1), 0);
        x = Checks.of(head(3, 3, 1) + front + "2 people 0 doors;");
        CHECKS.due("can(0, 0, 1), no doors here", x.can(0, 0, 1), 0);
    }

    private static void safeNoneAndAll() {
        CHECKS.due("safe(): all", Checks.of(head(8, 40, 1)).safe(), 255);
        CHECKS.due("safe(): all", Checks.of(head(2, 1, 1)).safe(), 3);
        CHECKS.due("safe(): none", Checks.of(head(2, 2, 9) + "inspector at 0 up pace 1;").safe(), 0);
        CHECKS.due("safe(): none", Checks.of(head(3, 1, 9) + "inspector at 0 up pace 1; inspector at 1 up pace 1;"
            + "inspector at 2 up pace 1;").safe(), 0);
        CHECKS.due("safe(): one MINUTE", Checks.of(head(8, 1, 9) + "inspector at 7 up pace 1;").safe(), 127);
        CoachAhead x = Checks.of(head(3, 3, 9) + "coach 1 people 9 loo; inspector at 1 up pace 1;");
        CHECKS.due("not in a LOO", x.safe(), 5);
    }

    // ---- promises 24 to 26 ----

    private static void pathsOfOneAndOfForty() {
        CoachAhead x = Checks.of(head(2, 1, 1));
        path(x, 0);
        path(x, 1);
        CHECKS.due("path(2, 0)", x.path(2, 0), -2);
        x = Checks.of(head(8, 40, 20) + "coach 7 people 38; inspector at 7 up pace 1 turns;");
        CHECKS.due("at(0, 38)", x.at(0, 38), 7);
        CHECKS.due("at(0, 39)", x.at(0, 39), 6);
        CHECKS.due("path(6, 37)", x.path(6, 37), 0);
        CHECKS.due("path(6, 38), down", x.path(6, 38), 2);
        CHECKS.due("path(6, 39)", x.path(6, 39), -1);
        CHECKS.due("path(5, 38)", x.path(5, 38), 0);
        for (int i = 0; i < 39; i++) {
            CHECKS.due("path(7, " + i + "): HAD", x.path(7, i), -1);
        }
    }

    private static void leastRow() {
        // From 0 into the LOO ahead of the platform, and by the platform to the least COACH with doors.
        String train = head(4, 3, 1) + "coach 1 people 1; coach 2 people 0 doors; coach 3 people 0 doors;"
            + "inspector at 1 down pace 1;";
        path(Checks.of(train + "coach 0 people 0 doors loo;"), 0, 0, 3);
        path(Checks.of(train + "coach 0 people 0 doors;"), 0, 0, 6);
        path(Checks.of(train + "coach 0 people 0 doors; coach 2 people 0;"), 0, 0, 7);
        // Staying is ahead of going, in a LOO too, and up is ahead of the LOO.
        path(Checks.of(head(3, 3, 9) + "coach 1 people 9 loo; inspector at 0 up pace 1;"), 1, 1, 0);
        path(Checks.of(head(2, 4, 9) + "coach 1 people 9 loo; inspector at 0 up pace 1;"), 1, 3, 0, 0);
        // Down is ahead of the LOO.
        path(Checks.of(head(3, 3, 9) + "coach 1 people 9 loo; inspector at 2 down pace 1;"), 1, 2, 0);
        // The platform is the last: up is ahead of it.
        path(Checks.of(head(3, 4, 1) + "coach 0 people 1; coach 1 people 9 doors; coach 2 people 0 doors;"
            + "inspector at 0 up pace 1;"), 1, 0, 1, 0);
    }

    private static void stepsOutOfALoo() {
        // In the LOO of 1 while the first one is there; ahead of the one that knocks he goes out of it and on at once.
        CoachAhead x = Checks.of(head(3, 4, 9) + "coach 0 people 2; coach 1 people 0 loo; inspector at 0 up pace 20;"
            + "inspector at 0 up pace 1 knocks 1;");
        spots(x, 0, 0, 1, 2, -1);
        spots(x, 1, 0, 0, 0, 1);
        path(x, 1, 3, 0, 1);
        CHECKS.due("effort(1)", x.effort(1), 2);
        x = Checks.of(head(3, 4, 9) + "coach 2 people 2; coach 1 people 0 loo; inspector at 2 down pace 20;"
            + "inspector at 2 down pace 1 knocks 1;");
        path(x, 1, 3, 0, 2);
        CHECKS.due("effort(1)", x.effort(1), 2);
        // Out of it he is HAD, too, if he goes to the COACH that one leaves for his.
        x = Checks.of(head(2, 3, 9) + "coach 0 people 0 loo; coach 1 people 1; inspector at 1 down pace 1 knocks 1;");
        CHECKS.due("can(0, 1, 1)", x.can(0, 1, 1), 0);
        CHECKS.due("can(0, 0, 1)", x.can(0, 0, 1), 0);
        // Out of the LOO into its COACH, then by the platform: never from the LOO itself.
        x = Checks.of(head(3, 6, 1) + "coach 0 people 0 loo doors; coach 2 people 0 doors; coach 1 people 3;"
            + "inspector at 1 down pace 3; inspector at 1 down pace 1 knocks 1;");
        spots(x, 0, 1, 1, 0, -1, -1, -1);
        spots(x, 1, 1, 1, 1, 1, 0, -1);
        path(x, 0, 0, 3, 3, 6, 0);
        CHECKS.due("can(0, 1, 3)", x.can(0, 1, 3), 0);
        CHECKS.due("can(0, 0, 3)", x.can(0, 0, 3), 1);
    }

    private static void spots(CoachAhead x, int inspector, int... due) {
        for (int m = 0; m < due.length; m++) {
            CHECKS.due("at(" + inspector + ", " + m + ")", x.at(inspector, m), due[m]);
        }
    }

    private static void effortNoneAndSome() {
        CoachAhead x = Checks.of(head(8, 40, 1));
        CHECKS.due("effort(0)", x.effort(0), 0);
        CHECKS.due("effort(7)", x.effort(7), 0);
        CHECKS.due("effort(8)", x.effort(8), -2);
        CHECKS.due("effort(-1)", x.effort(-1), -2);
        x = Checks.of(head(2, 2, 9) + "inspector at 0 up pace 1;");
        CHECKS.due("effort(0): HAD", x.effort(0), -1);
        CHECKS.due("effort(1): HAD", x.effort(1), -1);
        // It drives him up through all eight, and is not at COACH 7 by the END.
        x = Checks.of(head(8, 7, 9) + "inspector at 0 up pace 1;");
        int[] effort = {-1, 6, 5, 4, 3, 2, 1, 0};
        for (int c = 0; c < 8; c++) {
            CHECKS.due("effort(" + c + ")", x.effort(c), effort[c]);
        }
        // The first answer of a new object, and fewer STEPS than the PATH has.
        CHECKS.due("effort(1), asked first", Checks.of(Trains.FOUR).effort(1), 1);
        CHECKS.due("effort(3), asked first", Checks.of(Trains.FOUR).effort(3), 1);
    }

    private static void lastsToTheEnd() {
        CoachAhead x = Checks.of(head(3, 3, 9) + "inspector at 0 up pace 1;");
        int[] lasts = {0, 2, 2};
        for (int c = 0; c < 3; c++) {
            CHECKS.due("lasts(" + c + ")", x.lasts(c), lasts[c]);
        }
        CHECKS.due("lasts(3)", x.lasts(3), -2);
        CHECKS.due("lasts(-1)", x.lasts(-1), -2);
        // Without the last MINUTE he need not be HAD.
        x = Checks.of(head(3, 2, 9) + "inspector at 0 up pace 1;");
        CHECKS.due("lasts(1)", x.lasts(1), 2);
        CHECKS.due("lasts(0)", x.lasts(0), 0);
        CHECKS.due("lasts of one MINUTE", Checks.of(head(2, 1, 1)).lasts(1), 1);
        CHECKS.due("lasts of forty", Checks.of(head(8, 40, 1)).lasts(7), 40);
        // HAD in the last of forty MINUTES, and not before; the LOO of 1 hides him from one that does not knock.
        String train = head(2, 40, 20) + "coach 0 people 38 %s; inspector at 0 up pace 1;";
        CHECKS.due("lasts(1) to MINUTE 39", Checks.of(String.format(train, "")).lasts(1), 39);
        CHECKS.due("lasts(1) in the LOO", Checks.of(String.format(train, "") + "coach 1 people 0 loo;").lasts(1), 40);
        CHECKS.due("lasts(1), asked for first", Checks.of(head(2, 9, 9) + "inspector at 0 up pace 1 knocks 1;"
            + "coach 1 people 9 loo;").lasts(1), 1);
    }

    // ---- promise 27 ----

    private static void roomFullAndEmpty() {
        StringBuilder loos = new StringBuilder(head(8, 40, 20));
        for (int c = 0; c < 8; c++) {
            loos.append("coach ").append(c).append(" people 99 loo;");
        }
        CoachAhead x = Checks.of(loos.toString());
        CHECKS.due("room(0): not from LOOS", x.room(0), 8);
        CHECKS.due("room(1): all PLACES", x.room(1), 16);
        CHECKS.due("room(39)", x.room(39), 16);
        CHECKS.due("room(40)", x.room(40), -2);
        CHECKS.due("room(-1)", x.room(-1), -2);
        // In 0 one stays that does not knock, in 7 one that does.
        x = Checks.of(loos + "inspector at 0 up pace 1; inspector at 7 up pace 1 knocks 1;");
        CHECKS.due("room(0)", x.room(0), 6);
        CHECKS.due("room(1)", x.room(1), 12);
        x = Checks.of(head(2, 1, 1) + "inspector at 0 up pace 1; inspector at 1 up pace 1;");
        CHECKS.due("room(0): none", x.room(0), 0);
        // All are HAD by MINUTE 2, and nobody comes back.
        x = Checks.of(head(3, 5, 9) + "inspector at 0 up pace 1;");
        int[] room = {2, 1, 0, 0, 0};
        for (int m = 0; m < room.length; m++) {
            CHECKS.due("room(" + m + ")", x.room(m), room[m]);
        }
        CHECKS.due("room(1), asked first", Checks.of(head(3, 5, 9) + "inspector at 0 up pace 1;").room(1), 1);
    }

    private static void roomByThePlatform() {
        // One stays in 1 and parts the train; COACH 0 is free from MINUTE 1 on, and only the platform leads there.
        String train = head(5, 5, 2) + "coach 1 people 99 %s; inspector at 1 up pace 1; inspector at 0 down pace 1;";
        room(Checks.of(String.format(train, "") + "coach 0 people 0 doors; coach 4 people 0 doors;"), 3, 3, 3, 4, 4);
        room(Checks.of(String.format(train, "")), 3, 3, 3, 3, 3);
        room(Checks.of(String.format(train, "doors") + "coach 0 people 0 doors;"), 3, 3, 3, 3, 3);
        room(Checks.of(String.format(train, "") + "coach 4 people 0 doors;"), 3, 3, 3, 3, 3);
        // The STOP in 3 would be used in 4.
        room(Checks.of(String.format(train, "").replace("every 2", "every 3") + "coach 0 people 0 doors;"
            + "coach 4 people 0 doors;"), 3, 3, 3, 3, 4);
        room(Checks.of(String.format(train, "").replace("every 2", "every 4") + "coach 0 people 0 doors;"
            + "coach 4 people 0 doors;"), 3, 3, 3, 3, 3);
    }

    private static void room(CoachAhead x, int... due) {
        for (int m = 0; m < due.length; m++) {
            CHECKS.due("room(" + m + ")", x.room(m), due[m]);
        }
    }

    // ---- promises 51 to 53 ----

    private static void mattersAlone() {
        // COACH 7 is left by the platform to 0: both doors matter, no LOO does.
        String eight = head(8, 3, 1) + "coach 0 people 9 loo doors; coach 6 people 1; coach 7 people 0 doors;"
            + "inspector at 6 up pace 1;";
        CHECKS.due("matters(0)", Checks.of(eight).matters(0), 129);
        CHECKS.due("matters(1)", Checks.of(eight).matters(1), 0);
        // With doors in 1 too, those of 0 alone do not matter any more.
        CHECKS.due("matters(0)", Checks.of(eight + "coach 1 people 0 doors;").matters(0), 128);
        CHECKS.due("matters(2)", Checks.of(eight).matters(2), -2);
        CHECKS.due("matters(-1)", Checks.of(eight).matters(-1), -2);
        CHECKS.due("matters(0) without doors", Checks.of(head(8, 40, 1)).matters(0), 0);
        CHECKS.due("matters(1) without LOOS", Checks.of(head(8, 40, 1)).matters(1), 0);
        String loos = head(4, 4, 9) + "inspector at 0 up pace 1; coach 2 people 0 loo;";
        CHECKS.due("matters(1)", Checks.of(loos).matters(1), 4);
        CHECKS.due("matters(1)", Checks.of(loos + "coach 3 people 0 loo;").matters(1), 0);
        CHECKS.due("matters(0)", Checks.of(loos).matters(0), 0);
        CHECKS.due("matters(1) of 7", Checks.of(head(8, 8, 9) + "coach 7 people 0 loo; inspector at 6 up pace 1;")
            .matters(1), 128);
        CHECKS.due("matters(1) of 0", Checks.of(head(8, 8, 9) + "coach 0 people 0 loo; inspector at 1 down pace 1;")
            .matters(1), 1);
    }

    private static void doorsOfASet() {
        CoachAhead x = Checks.of(head(8, 3, 1) + "coach 0 people 9 loo doors; coach 6 people 1; coach 7 people 0 doors;"
            + "inspector at 6 up pace 1;");
        int[][] sets = {{0, 6}, {1, 6}, {128, 6}, {129, 7}, {127, 6}, {254, 7}, {255, 7}, {256, -2}, {-1, -2},
            {Integer.MAX_VALUE, -2}, {Integer.MIN_VALUE, -2}, {511, -2}};
        for (int[] set : sets) {
            CHECKS.due("doors(" + set[0] + ")", x.doors(set[0]), set[1]);
        }
        CHECKS.due("safe() as ever", x.safe(), 191);
        CHECKS.due("doors of 2 as ever", x.coach(2, 2), 0);
        x = Checks.of(head(2, 1, 1));
        CHECKS.due("doors(3)", x.doors(3), 2);
        CHECKS.due("doors(4)", x.doors(4), -2);
        CHECKS.due("doors(0), asked first", Checks.of(Trains.FOUR).doors(0), 1);
    }

    private static void looMore() {
        // Of 1, 2, 3 a LOO in 1 makes one COACH SAFE, one in 2 or 3 makes three.
        CoachAhead x = Checks.of(head(4, 4, 9) + "inspector at 0 up pace 1;");
        CHECKS.due("safe()", x.safe(), 0);
        CHECKS.due("loo(): the first of several", x.loo(), 2);
        x.set(2, 1, 1);
        CHECKS.due("safe()", x.safe(), 14);
        CHECKS.due("loo(): not more than now", x.loo(), -1);
        CHECKS.due("loo() of all SAFE", Checks.of(head(8, 40, 1)).loo(), -1);
        CHECKS.due("loo() against knocks", Checks.of(head(4, 4, 9) + "inspector at 0 up pace 1 knocks 1;").loo(), -1);
        CHECKS.due("loo() of 0", Checks.of(head(2, 2, 9) + "inspector at 1 down pace 1;").loo(), 0);
        CHECKS.due("loo() of 7", Checks.of(head(8, 2, 9) + "inspector at 6 up pace 1;").loo(), 7);
    }
}
