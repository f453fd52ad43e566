/** Promises 1 to 9 and 59: a new object, the TAPE, the TRAIN, its FAULTS and its parts. */
public final class TextTest {
    private static final Checks CHECKS = new Checks();
    private static final String HEAD = "train coaches 4 minutes 8 every 3 fare 3 fine 60;";

    public static void main(String[] args) {
        newObject();
        tape();
        trainsAndNoTrain();
        boundsOfTheHead();
        faultsOfTheHead();
        faultsOfCoaches();
        faultsOfInspectors();
        faultsOfRiders();
        faultsOfDays();
        tokens();
        tooMany();
        parts();
        laterLinesStrike();
        counts();
        CHECKS.close("TextTest");
    }

    private static void good(String text, int lines) {
        CoachAhead x = new CoachAhead();
        Checks.type(x, text);
        CHECKS.due("train() of " + text, x.train(), lines);
        CHECKS.due("fault(0) of " + text, x.fault(0), 0);
        CHECKS.due("fault(1) of " + text, x.fault(1), -1);
        CHECKS.due("count(7) of " + text, x.count(7), lines);
    }

    private static void bad(String text, int fault, int place) {
        CoachAhead x = Checks.of(Trains.BARE);
        Checks.type(x, text);
        CHECKS.due("train() of " + text, x.train(), -4);
        CHECKS.due("fault(0) of " + text, x.fault(0), fault);
        CHECKS.due("fault(1) of " + text, x.fault(1), place);
        CHECKS.due("coaches after " + text, x.count(0), 3);
        CHECKS.due("fare after " + text, x.count(3), 7);
        CHECKS.due("LINES after " + text, x.count(7), 1);
    }

    /** A FAULT behind a good first LINE, at the first sign of tail's part from which on it is wrong. */
    private static void badTail(String fine, String wrong, int fault) {
        bad(HEAD + fine + wrong, fault, HEAD.length() + fine.length());
    }

    private static void newObject() {
        CoachAhead x = new CoachAhead();
        for (int what = 0; what <= 10; what++) {
            CHECKS.due("new count(" + what + ")", x.count(what), 0);
        }
        CHECKS.due("new fault(0)", x.fault(0), 0);
        CHECKS.due("new fault(1)", x.fault(1), -1);
        CHECKS.due("new fault(2)", x.fault(2), -1);
        CHECKS.due("new fault(-1)", x.fault(-1), -1);
        CHECKS.due("new coach", x.coach(0, 0), -2);
        CHECKS.due("new inspector", x.inspector(0, 0), -2);
        CHECKS.due("new rider", x.rider(0, 0), -2);
        CHECKS.due("new day", x.day(0), -2);
    }

    private static void tape() {
        CoachAhead x = new CoachAhead();
        CHECKS.due("end(0)", x.end(0), 0);
        CHECKS.due("end(1)", x.end(1), -1);
        CHECKS.due("feed", x.feed(0x74726169, 0x6e20636f, 0x61636865, 0x73203220, 0x6d696e75), 20);
        CHECKS.due("feed", x.feed(0x74657320, 0x31206576, 0x65727920, 0x31206661, 0x72652030), 40);
        CHECKS.due("feed", x.feed(0x2066696e, 0x6520303b, -1, 0, Integer.MIN_VALUE), 60);
        CHECKS.due("end(-1)", x.end(-1), -1);
        CHECKS.due("end(61)", x.end(61), -1);
        CHECKS.due("count(8)", x.count(8), 60);
        CHECKS.due("end(48)", x.end(48), 48);
        CHECKS.due("count(8)", x.count(8), 48);
        CHECKS.due("train()", x.train(), 1);
        CHECKS.due("coaches", x.count(0), 2);
        CHECKS.due("count(8)", x.count(8), 0);
        CHECKS.due("end(1)", x.end(1), -1);

        x = new CoachAhead();
        for (int i = 1; i <= 60; i++) {
            CHECKS.due("feed " + i, x.feed(0, 0, 0, 0, 0), 20 * i);
        }
        CHECKS.due("feed 61", x.feed(0, 0, 0, 0, 0), -1);
        CHECKS.due("count(8)", x.count(8), 1200);
        CHECKS.due("end(1181)", x.end(1181), 1181);
        CHECKS.due("feed to 1201", x.feed(0, 0, 0, 0, 0), -1);
        CHECKS.due("count(8)", x.count(8), 1181);
        CHECKS.due("end(1180)", x.end(1180), 1180);
        CHECKS.due("feed to 1200", x.feed(0, 0, 0, 0, 0), 1200);
    }

    private static void trainsAndNoTrain() {
        CoachAhead x = Checks.of(Trains.FOUR);
        CHECKS.due("LINES", x.count(7), 11);
        x.set(0, 0, 9);
        CHECKS.due("changes", x.count(9), 1);
        Checks.type(x, Trains.BARE);
        CHECKS.due("train() in place of another", x.train(), 1);
        CHECKS.due("INSPECTORS", x.count(5), 0);
        CHECKS.due("RIDERS", x.count(6), 0);
        CHECKS.due("changes", x.count(9), 0);
        CHECKS.due("people", x.coach(0, 0), 0);
        CHECKS.due("doors", x.coach(0, 2), 0);
        CHECKS.due("odds", x.day(4), 0);
        CHECKS.due("train() of an empty TAPE", x.train(), 0);
        CHECKS.due("COACHES", x.count(0), 0);
        CHECKS.due("day(0)", x.day(0), -2);
        CHECKS.due("safe()", x.safe(), -2);
        good("", 0);
        good(" \n  \n", 0);

        x = Checks.of(Trains.FOUR);
        x.set(0, 0, 9);
        Checks.type(x, "train coach;");
        CHECKS.due("train()", x.train(), -4);
        CHECKS.due("fault(0)", x.fault(0), 1);
        CHECKS.due("fault(1)", x.fault(1), 6);
        CHECKS.due("people stay", x.coach(0, 0), 9);
        CHECKS.due("changes stay", x.count(9), 1);
        CHECKS.due("fault(2)", x.fault(2), -1);
        CHECKS.due("the TAPE is empty then", x.count(8), 0);
        Checks.type(x, Trains.BARE);
        CHECKS.due("train()", x.train(), 1);
        CHECKS.due("fault(0)", x.fault(0), 0);
        CHECKS.due("fault(1)", x.fault(1), -1);
    }

    private static void boundsOfTheHead() {
        good("train coaches 2 minutes 1 every 1 fare 0 fine 0;", 1);
        good("train coaches 8 minutes 40 every 20 fare 99 fine 999;", 1);
        bad("train coaches 1 minutes 8 every 3 fare 3 fine 60;", 2, 14);
        bad("train coaches 9 minutes 8 every 3 fare 3 fine 60;", 2, 14);
        bad("train coaches 4 minutes 0 every 3 fare 3 fine 60;", 2, 24);
        bad("train coaches 4 minutes 41 every 3 fare 3 fine 60;", 2, 24);
        bad("train coaches 4 minutes 8 every 0 fare 3 fine 60;", 2, 32);
        bad("train coaches 4 minutes 8 every 21 fare 3 fine 60;", 2, 32);
        bad("train coaches 4 minutes 8 every 3 fare 100 fine 60;", 2, 39);
        bad("train coaches 4 minutes 8 every 3 fare 3 fine 1000;", 2, 46);
        bad("train coaches 4 minutes 8 every 3 fare 3 fine 99999999999999999999999;", 2, 46);
        bad("train coaches 4 minutes 8 every 3 fare 3 fine 4294967296;", 2, 46);
        good("train coaches 04 minutes 0000000000000008 every 3 fare 3 fine 60;", 1);
    }

    private static void faultsOfTheHead() {
        bad("coach 0 people 1;" + HEAD, 1, 0);
        bad("trains coaches 4;", 1, 0);
        bad("; " + HEAD, 1, 0);
        bad("7", 1, 0);
        bad("  \n train minutes 4", 1, 10);
        bad("train coaches", 1, 13);
        bad("train coaches  \n", 1, 16);
        bad("train coaches four", 1, 14);
        bad("train coaches 4 every 3", 1, 16);
        bad("train coaches 4 minutes 8 every 3 fare 3 fine 60", 1, 48);
        bad("train coaches 4 minutes 8 every 3 fare 3 fine 60 60;", 1, 49);
        bad(HEAD + HEAD, 1, HEAD.length());
        bad(HEAD + " ;", 1, HEAD.length() + 1);
        bad(HEAD + "5", 1, HEAD.length());
        bad(HEAD + "guard at 0;", 1, HEAD.length());
    }

    private static void faultsOfCoaches() {
        good(HEAD + "coach 0 people 0;coach 3 people 99 loo doors;coach 1 people 1 doors loo;", 4);
        badTail("coach ", "4 people 1;", 2);
        badTail("coach ", "x", 1);
        badTail("coach 1 ", "loo;", 1);
        badTail("coach 1 people ", "100;", 2);
        badTail("coach 1 people ", "loo;", 1);
        badTail("coach 1 people 5 loo ", "loo;", 1);
        badTail("coach 1 people 5 doors loo ", "doors;", 1);
        badTail("coach 1 people 5 ", "ticket;", 1);
        badTail("coach 1 people 5 loo ", "5;", 1);
        badTail("coach 1 people 5 loo doors", "", 1);
        badTail("coach 1 people 5 ", "loodoors;", 1);
    }

    private static void faultsOfInspectors() {
        good(HEAD + "inspector at 3 down pace 20;inspector at 0 up pace 1 turns knocks 0;", 3);
        good(HEAD + "inspector at 3 down pace 20 knocks 100 turns;", 2);
        badTail("inspector ", "in 0 up pace 1;", 1);
        badTail("inspector at ", "4 up pace 1;", 2);
        badTail("inspector at 0 ", "left pace 1;", 1);
        badTail("inspector at 0 ", "0 pace 1;", 1);
        badTail("inspector at 0 up pace ", "0;", 2);
        badTail("inspector at 0 up pace ", "21;", 2);
        badTail("inspector at 0 up pace 1 knocks ", "101;", 2);
        badTail("inspector at 0 up pace 1 knocks ", "turns;", 1);
        badTail("inspector at 0 up pace 1 knocks 0 ", "knocks 0;", 1);
        badTail("inspector at 0 up pace 1 turns ", "turns;", 1);
        badTail("inspector at 0 up pace 1 turns knocks 5 ", "turns;", 1);
        badTail("inspector at 0 up pace 1 ", "loo;", 1);
    }

    private static void faultsOfRiders() {
        good(HEAD + "rider in 0 stay sees 0 looks 0;rider in 3 forward sees 7 looks 100 ticket;"
            + "rider in 1 loo sees 1 looks 1;rider in 1 round sees 1 looks 1;", 5);
        badTail("rider ", "at 0 stay sees 0 looks 0;", 1);
        badTail("rider in ", "4 stay sees 0 looks 0;", 2);
        badTail("rider in 0 ", "stays sees 0 looks 0;", 1);
        badTail("rider in 0 ", "3 sees 0 looks 0;", 1);
        badTail("rider in 0 stay sees ", "8 looks 0;", 2);
        badTail("rider in 0 stay sees 0 looks ", "101;", 2);
        badTail("rider in 0 stay ", "looks 0;", 1);
        badTail("rider in 0 stay sees 0 looks 0 ticket ", "ticket;", 1);
        badTail("rider in 0 stay sees 0 looks 0 ", "loo;", 1);
    }

    private static void faultsOfDays() {
        good(HEAD + "day 0 odds 0; day 6 odds 100;", 3);
        badTail("day ", "7 odds 0;", 2);
        badTail("day 0 ", "0;", 1);
        badTail("day 0 odds ", "101;", 2);
        badTail("day 0 odds 5 ", "ticket;", 1);
    }

    private static void tokens() {
        good("train\ncoaches4minutes8every3fare3fine60;coach1people5loo doors;day0odds5;", 3);
        // What end() cut off is gone.
        CoachAhead x = new CoachAhead();
        Checks.type(x, "trains;");
        x.end(5);
        CHECKS.due("train() of train", x.train(), -4);
        CHECKS.due("its place", x.fault(1), 5);
        bad("trainz coaches 4;", 1, 0);
        bad("traina coaches 4;", 1, 0);
        badTail("", "\tcoach 1 people 5;", 1);
        badTail("", "Coach 1 people 5;", 1);
        badTail("coach ", "-1 people 5;", 1);
        badTail("coach 1 people 5", "," , 1);
        badTail("coach 1 people 5", "" + (char) 0, 1);
        badTail("coach 1 people 5", "" + (char) 233, 1);
        badTail("coach 1 people 5", "" + (char) 13, 1);
        badTail("coach 1 people 5", "`", 1);
        badTail("coach 1 people 5", "{", 1);
        badTail("coach 1 people 5", "/", 1);
        badTail("coach 1 people 5", ":", 1);
    }

    private static void tooMany() {
        String inspector = "inspector at 0 up pace 1;";
        String rider = "rider in 0 stay sees 0 looks 0;";
        good(HEAD + inspector.repeat(3) + rider.repeat(6), 10);
        badTail(inspector.repeat(3) + rider + " ", "inspector at 9 up pace 1;", 3);
        badTail(rider.repeat(6) + inspector, "rider", 3);
        badTail("inspector at ", "9 up pace 1;" + inspector.repeat(3), 2);
    }

    private static void parts() {
        CoachAhead x = Checks.of(Trains.FOUR + "inspector at 3 down pace 7 turns knocks 40;");
        int[][] coaches = {{5, 0, 1}, {20, 1, 0}, {0, 0, 0}, {0, 0, 1}};
        for (int c = 0; c < 4; c++) {
            for (int what = 0; what < 3; what++) {
                CHECKS.due("coach(" + c + ", " + what + ")", x.coach(c, what), coaches[c][what]);
            }
        }
        int[][] inspectors = {{0, 0, 10, 0, 0}, {3, 1, 7, 40, 1}};
        for (int i = 0; i < 2; i++) {
            for (int what = 0; what < 5; what++) {
                CHECKS.due("inspector(" + i + ", " + what + ")", x.inspector(i, what), inspectors[i][what]);
            }
        }
        int[][] riders = {{2, 1, 1, 30, 0}, {1, 2, 1, 50, 1}, {0, 3, 0, 50, 0}, {3, 0, 7, 0, 0}};
        for (int r = 0; r < 4; r++) {
            for (int what = 0; what < 5; what++) {
                CHECKS.due("rider(" + r + ", " + what + ")", x.rider(r, what), riders[r][what]);
            }
        }
        int[] odds = {0, 5, 0, 0, 50, 0, 0};
        for (int d = 0; d < 7; d++) {
            CHECKS.due("day(" + d + ")", x.day(d), odds[d]);
        }
        CHECKS.due("coach(4, 0)", x.coach(4, 0), -2);
        CHECKS.due("coach(-1, 0)", x.coach(-1, 0), -2);
        CHECKS.due("coach(0, 3)", x.coach(0, 3), -2);
        CHECKS.due("coach(0, -1)", x.coach(0, -1), -2);
        CHECKS.due("inspector(2, 0)", x.inspector(2, 0), -2);
        CHECKS.due("inspector(-1, 0)", x.inspector(-1, 0), -2);
        CHECKS.due("inspector(0, 5)", x.inspector(0, 5), -2);
        CHECKS.due("inspector(0, -1)", x.inspector(0, -1), -2);
        CHECKS.due("rider(4, 0)", x.rider(4, 0), -2);
        CHECKS.due("rider(-1, 0)", x.rider(-1, 0), -2);
        CHECKS.due("rider(0, 5)", x.rider(0, 5), -2);
        CHECKS.due("rider(0, -1)", x.rider(0, -1), -2);
        CHECKS.due("day(7)", x.day(7), -2);
        CHECKS.due("day(-1)", x.day(-1), -2);
    }

    private static void laterLinesStrike() {
        CoachAhead x = Checks.of(HEAD + "coach 1 people 20 loo doors; coach 2 people 3; coach 1 people 4 doors;"
            + "day 2 odds 50; day 2 odds 7;");
        CHECKS.due("LINES", x.count(7), 6);
        CHECKS.due("people", x.coach(1, 0), 4);
        CHECKS.due("loo", x.coach(1, 1), 0);
        CHECKS.due("doors", x.coach(1, 2), 1);
        CHECKS.due("people of another", x.coach(2, 0), 3);
        CHECKS.due("day(2)", x.day(2), 7);
    }

    private static void counts() {
        CoachAhead x = Checks.of(Trains.FOUR);
        Checks.type(x, "train");
        x.row(1, 0, 0);
        x.row(3, 2, 60);
        x.set(2, 1, 1);
        x.send(0, 3);
        int[] due = {4, 8, 3, 3, 60, 1, 4, 11, 5, 2, 2};
        for (int what = 0; what < due.length; what++) {
            CHECKS.due("count(" + what + ")", x.count(what), due[what]);
        }
        CHECKS.due("count(11)", x.count(11), -1);
        CHECKS.due("count(-1)", x.count(-1), -1);
        CHECKS.due("count(max)", x.count(Integer.MAX_VALUE), -1);
        CHECKS.due("count(min)", x.count(Integer.MIN_VALUE), -1);
    }
}
