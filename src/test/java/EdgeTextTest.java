/** The edges of Term I and of promises 1 to 9: bytes, TOKENS, numbers, FAULTS, LINES. */
public final class EdgeTextTest {
    private static final Checks CHECKS = new Checks();
    private static final String HEAD = "train coaches 4 minutes 8 every 3 fare 3 fine 60;";
    private static final String SHORT_HEAD = "train coaches2minutes1every1fare0fine0;";
    private static final int MIN = Integer.MIN_VALUE;
    private static final int MAX = Integer.MAX_VALUE;

    public static void main(String[] args) {
        feedToTheLastByte();
        feedRefusedKeepsTheBytes();
        bytesOfEachNumber();
        endAtBothEnds();
        fullTape();
        mostLines();
        longestTokens();
        emptyTape();
        tapeIsEmptyAfterTrain();
        faultAheadOfAny();
        faultOfTheLatestTrain();
        boundsOfNumbers();
        boundsOfCoachNumbers();
        strayBytes();
        bytesBetweenWordAndNumber();
        bytesBetweenDigits();
        faultsOfOnePlace();
        firstFaultByPlace();
        fourthInspectorSeventhRider();
        placesOfTheEnd();
        marksOnceInAnyOrder();
        withoutLines();
        laterOnesStrike();
        numberedAsTheyStand();
        CHECKS.close("EdgeTextTest");
    }

    private static CoachAhead good(String text, int lines) {
        CoachAhead x = new CoachAhead();
        Checks.type(x, text);
        CHECKS.due("train() of " + text, x.train(), lines);
        CHECKS.due("fault(0) of " + text, x.fault(0), 0);
        CHECKS.due("fault(1) of " + text, x.fault(1), -1);
        CHECKS.due("count(7) of " + text, x.count(7), lines);
        return x;
    }

    private static void bad(String text, int fault, int place) {
        CoachAhead x = Checks.of(Trains.BARE);
        Checks.type(x, text);
        CHECKS.due("train() of " + text, x.train(), -4);
        CHECKS.due("fault(0) of " + text, x.fault(0), fault);
        CHECKS.due("fault(1) of " + text, x.fault(1), place);
        CHECKS.due("fare after " + text, x.count(3), 7);
    }

    // ---- promises 2 and 3 ----

    private static void feedToTheLastByte() {
        CoachAhead x = new CoachAhead();
        for (int i = 1; i <= 60; i++) {
            CHECKS.due("feed " + i, x.feed(MIN, MAX, -1, 0, 1), 20 * i);
        }
        CHECKS.due("feed beyond 1,200", x.feed(0, 0, 0, 0, 0), -1);
        CHECKS.due("feed again", x.feed(-1, -1, -1, -1, -1), -1);
        CHECKS.due("count(8)", x.count(8), 1200);
        int[] tooMany = {1199, 1198, 1190, 1181};
        for (int n : tooMany) {
            CHECKS.due("end(" + n + ")", x.end(n), n);
            CHECKS.due("feed behind " + n, x.feed(0, 0, 0, 0, 0), -1);
            CHECKS.due("count(8)", x.count(8), n);
        }
        CHECKS.due("end(1180)", x.end(1180), 1180);
        CHECKS.due("feed behind 1180", x.feed(0, 0, 0, 0, 0), 1200);
        CHECKS.due("feed behind 1200", x.feed(0, 0, 0, 0, 0), -1);
    }

    private static void feedRefusedKeepsTheBytes() {
        CoachAhead x = new CoachAhead();
        String text = HEAD + " ".repeat(1181 - HEAD.length() - 13) + "day 6 odds 9;";
        CHECKS.due("bytes", text.length(), 1181);
        Checks.type(x, text);
        CHECKS.due("feed", x.feed(-1, -1, -1, -1, -1), -1);
        CHECKS.due("train()", x.train(), 2);
        CHECKS.due("day(6)", x.day(6), 9);
    }

    private static void bytesOfEachNumber() {
        // Each of the five numbers has four bytes, the highest first: a FAULT's place tells which came where.
        for (int place = 0; place < 20; place++) {
            int[] words = new int[5];
            for (int i = 0; i < 20; i++) {
                words[i / 4] = words[i / 4] << 8 | (i == place ? 0xe9 : ' ');
            }
            CoachAhead x = new CoachAhead();
            CHECKS.due("feed", x.feed(words[0], words[1], words[2], words[3], words[4]), 20);
            CHECKS.due("train()", x.train(), -4);
            CHECKS.due("place of byte " + place, x.fault(1), place);
        }
    }

    private static void endAtBothEnds() {
        CoachAhead x = new CoachAhead();
        CHECKS.due("end(0) of nothing", x.end(0), 0);
        CHECKS.due("end(1) of nothing", x.end(1), -1);
        CHECKS.due("end(-1) of nothing", x.end(-1), -1);
        x.feed(0, 0, 0, 0, 0);
        int[] refused = {-1, 21, MIN, MAX};
        for (int n : refused) {
            CHECKS.due("end(" + n + ")", x.end(n), -1);
            CHECKS.due("count(8)", x.count(8), 20);
        }
        CHECKS.due("end(20)", x.end(20), 20);
        CHECKS.due("end(19)", x.end(19), 19);
        CHECKS.due("end(20) now", x.end(20), -1);
        CHECKS.due("feed comes behind", x.feed(0, 0, 0, 0, 0), 39);
        CHECKS.due("end(0)", x.end(0), 0);
        CHECKS.due("end(1)", x.end(1), -1);
        CHECKS.due("feed", x.feed(0, 0, 0, 0, 0), 20);
        // What end() left is there, and what comes next is behind it.
        x = new CoachAhead();
        Checks.type(x, "train coaches 2 minutes 1 every 1 fare 0 fine 5");
        CHECKS.due("end(46)", x.end(46), 46);
        Checks.type(x, "789;");
        CHECKS.due("train()", x.train(), 1);
        CHECKS.due("fine", x.count(4), 789);
    }

    // ---- promise 4 ----

    private static void fullTape() {
        String tail = "day 6 odds 9;";
        String blanks = " \n".repeat(600).substring(0, 1200 - HEAD.length() - tail.length());
        CoachAhead x = good(HEAD + blanks + tail, 2);
        CHECKS.due("day(6)", x.day(6), 9);
        CHECKS.due("count(8)", x.count(8), 0);
        CHECKS.due("feed", x.feed(0, 0, 0, 0, 0), 20);
        bad(HEAD + blanks + "day 66 odds 9", 2, 1200 - 9);
        bad(HEAD + blanks + "day 6 odds 99", 1, 1200);
        bad(HEAD + blanks + "day 6 odds 9x", 1, 1199);
        bad(HEAD + blanks + "day 6 odds 9%", 1, 1199);
        bad(HEAD + blanks + " day 6 odds 9", 1, 1200);
        bad(" ".repeat(1199) + ";", 1, 1199);
        good(" ".repeat(1200), 0);
    }

    private static void mostLines() {
        int most = (1200 - SHORT_HEAD.length()) / 10;
        CoachAhead x = good(SHORT_HEAD + "day0odds7;".repeat(most), most + 1);
        CHECKS.due("day(0)", x.day(0), 7);
        good(SHORT_HEAD, 1);
    }

    private static void longestTokens() {
        CHECKS.due("a number of 1,100 digits", good(SHORT_HEAD + "day 5 odds " + "0".repeat(1098) + "42;", 2).day(5), 42);
        bad(SHORT_HEAD + "day 5 odds " + "9".repeat(1100), 2, 50);
        bad(SHORT_HEAD + "day 5 odds " + "0".repeat(1000) + "101;", 2, 50);
        bad("t".repeat(1200), 1, 0);
        bad("train" + "z".repeat(1195), 1, 0);
        bad("9".repeat(1200), 1, 0);
        bad(";".repeat(1200), 1, 0);
    }

    private static void emptyTape() {
        CoachAhead x = new CoachAhead();
        CHECKS.due("train() of nothing", x.train(), 0);
        CHECKS.due("COACHES", x.count(0), 0);
        good("", 0);
        good("\n", 0);
        x = Checks.of(Trains.FOUR);
        x.set(0, 0, 1);
        CHECKS.due("train() of nothing, behind another", x.train(), 0);
        for (int what = 0; what <= 10; what++) {
            CHECKS.due("count(" + what + ")", x.count(what), 0);
        }
        CHECKS.due("undo()", x.undo(), -2);
        CHECKS.due("coach(0, 0)", x.coach(0, 0), -2);
        CHECKS.due("day(0)", x.day(0), -2);
    }

    private static void tapeIsEmptyAfterTrain() {
        CoachAhead x = Checks.of(HEAD);
        CHECKS.due("count(8)", x.count(8), 0);
        CHECKS.due("end(1)", x.end(1), -1);
        CHECKS.due("train() again", x.train(), 0);
        // A refused text is not ahead of the next one.
        Checks.type(x, "train coaches 1 minutes");
        CHECKS.due("train()", x.train(), -4);
        Checks.type(x, HEAD);
        CHECKS.due("train()", x.train(), 1);
    }

    // ---- promise 5 ----

    private static void faultAheadOfAny() {
        CoachAhead x = new CoachAhead();
        int[] others = {-1, 2, MIN, MAX};
        for (int time = 0; time < 3; time++) {
            CHECKS.due("fault(0) " + time, x.fault(0), time == 1 ? 1 : 0);
            CHECKS.due("fault(1) " + time, x.fault(1), time == 1 ? 3 : -1);
            for (int what : others) {
                CHECKS.due("fault(" + what + ") " + time, x.fault(what), -1);
            }
            Checks.type(x, time == 0 ? "   what" : HEAD);
            x.train();
        }
    }

    private static void faultOfTheLatestTrain() {
        CoachAhead x = Checks.of(HEAD);
        x.image(0);
        Checks.type(x, "train coaches 9");
        x.train();
        CHECKS.due("fault(0)", x.fault(0), 2);
        x.back(0);
        x.set(0, 0, 1);
        x.undo();
        Checks.type(x, "x");
        x.end(0);
        CHECKS.due("fault(0) stays", x.fault(0), 2);
        CHECKS.due("fault(1) stays", x.fault(1), 14);
        Checks.type(x, "x");
        x.train();
        CHECKS.due("fault(0) of the latest", x.fault(0), 1);
        CHECKS.due("fault(1) of the latest", x.fault(1), 0);
        x.train();
        CHECKS.due("fault(0) of an empty one", x.fault(0), 0);
        CHECKS.due("fault(1) of an empty one", x.fault(1), -1);
    }

    // ---- the bounds of numbers ----

    /** The number at # may be least to most; a text with another has FAULT 2 there. */
    private static void bounds(String form, int least, int most) {
        int place = form.indexOf('#');
        int lines = form.length() - form.replace(";", "").length();
        good(form.replace("#", "" + least), lines);
        good(form.replace("#", "" + most), lines);
        good(form.replace("#", "000000000000" + least), lines);
        good(form.replace("#", "000" + most), lines);
        if (least > 0) {
            bad(form.replace("#", "" + (least - 1)), 2, place);
            bad(form.replace("#", "000" + (least - 1)), 2, place);
        }
        String[] above = {"" + (most + 1), "0" + (most + 1), "999999", "1000000", "2147483648", "4294967297",
            "18446744073709551617", "99999999999999999999999999"};
        for (String number : above) {
            bad(form.replace("#", number), 2, place);
        }
        bad(form.replace("#", "-1"), 1, place);
        bad(form.replace("#", ""), 1, behind(form, place));
        bad(form.replace("#", "x"), 1, place);
    }

    /** Where the TOKEN behind the # is, once the # is gone. */
    private static int behind(String form, int place) {
        int next = place;
        while (form.charAt(next + 1) == ' ') {
            next++;
        }
        return next;
    }

    private static void boundsOfNumbers() {
        bounds("train coaches # minutes 8 every 3 fare 3 fine 60;", 2, 8);
        bounds("train coaches 4 minutes # every 3 fare 3 fine 60;", 1, 40);
        bounds("train coaches 4 minutes 8 every # fare 3 fine 60;", 1, 20);
        bounds("train coaches 4 minutes 8 every 3 fare # fine 60;", 0, 99);
        bounds("train coaches 4 minutes 8 every 3 fare 3 fine #;", 0, 999);
        bounds(HEAD + "coach 1 people #;", 0, 99);
        bounds(HEAD + "coach 1 people # loo doors;", 0, 99);
        bounds(HEAD + "inspector at 0 up pace #;", 1, 20);
        bounds(HEAD + "inspector at 0 up pace # turns;", 1, 20);
        bounds(HEAD + "inspector at 0 up pace 1 knocks #;", 0, 100);
        bounds(HEAD + "inspector at 0 up pace 1 turns knocks #;", 0, 100);
        bounds(HEAD + "rider in 0 stay sees # looks 0;", 0, 7);
        bounds(HEAD + "rider in 0 stay sees 0 looks #;", 0, 100);
        bounds(HEAD + "day # odds 0;", 0, 6);
        bounds(HEAD + "day 0 odds #;", 0, 100);
    }

    private static void boundsOfCoachNumbers() {
        for (int coaches = 2; coaches <= 8; coaches++) {
            String head = "train coaches " + coaches + " minutes 8 every 3 fare 3 fine 60;";
            bounds(head + "coach # people 1;", 0, coaches - 1);
            bounds(head + "inspector at # up pace 1;", 0, coaches - 1);
            bounds(head + "rider in # stay sees 0 looks 0;", 0, coaches - 1);
        }
    }

    // ---- TOKENS ----

    private static void strayBytes() {
        for (int b = 0; b < 256; b++) {
            String text = HEAD + (char) b;
            if (b == 32 || b == 10) {
                good(text, 1);
                good((char) b + text, 1);
            } else {
                bad(text, 1, HEAD.length());
                // A letter ahead of train makes another word; anything else is a TOKEN of its own.
                bad((char) b + text, 1, 0);
            }
        }
    }

    private static void bytesBetweenWordAndNumber() {
        String front = HEAD + "coach 1 ";
        for (int b = 0; b < 256; b++) {
            String text = front + "people" + (char) b + "5;";
            if (b == 32 || b == 10) {
                CHECKS.due("people", good(text, 2).coach(1, 0), 5);
            } else if (b >= '0' && b <= '9') {
                CHECKS.due("people", good(text, 2).coach(1, 0), 10 * (b - '0') + 5);
            } else if (b >= 'a' && b <= 'z') {
                bad(text, 1, front.length());
            } else {
                bad(text, 1, front.length() + 6);
            }
        }
    }

    private static void bytesBetweenDigits() {
        String front = HEAD + "coach 1 people ";
        for (int b = 0; b < 256; b++) {
            String text = front + "1" + (char) b + "2;";
            if (b >= '0' && b <= '9') {
                bad(text, 2, front.length());
            } else if (b == 32 || b == 10 || b == ';') {
                bad(text, 1, front.length() + 2);
            } else {
                bad(text, 1, front.length() + 1);
            }
        }
    }

    // ---- FAULTS ----

    private static void faultsOfOnePlace() {
        // A number that can't stand there is 1, however great.
        bad("train 99999;", 1, 6);
        bad(HEAD + "500;", 1, HEAD.length());
        bad(HEAD + "coach 1 people 5 500;", 1, HEAD.length() + 17);
        bad(HEAD + "inspector at 0 99 pace 1;", 1, HEAD.length() + 15);
        bad(HEAD + "rider in 0 99 sees 0 looks 0;", 1, HEAD.length() + 11);
        bad(HEAD + "rider in 0 stay sees 0 looks 0 999;", 1, HEAD.length() + 31);
    }

    private static void firstFaultByPlace() {
        bad("train coaches 9 minutes 99 %", 2, 14);
        bad("train coaches 4 minutes 99 % coaches", 2, 24);
        bad("train coaches 4 % minutes 99", 1, 16);
        bad(HEAD + "coach 9 people 5 % ;" + HEAD, 2, HEAD.length() + 6);
        bad(HEAD + "coach 1 people 5 loo loo;coach 9 people 5;", 1, HEAD.length() + 21);
        bad(HEAD + HEAD.replace("4", "9"), 1, HEAD.length());
        // Another word ahead of the first LINE is a FAULT at its place, whatever comes behind it.
        bad("day 9 odds 5;" + HEAD, 1, 0);
        bad("inspector at 0 up pace 1;" + HEAD, 1, 0);
    }

    private static void fourthInspectorSeventhRider() {
        String inspector = "inspector at 0 up pace 1;";
        String rider = "rider in 0 stay sees 0 looks 0;";
        CHECKS.due("INSPECTORS", good(HEAD + inspector.repeat(3), 4).count(5), 3);
        CHECKS.due("RIDERS", good(HEAD + rider.repeat(6), 7).count(6), 6);
        String three = HEAD + inspector.repeat(3);
        bad(three + inspector, 3, three.length());
        bad(three + " \n" + inspector, 3, three.length() + 2);
        bad(three + "inspector", 3, three.length());
        bad(three + "inspector %", 3, three.length());
        bad(three + "inspector at 99", 3, three.length());
        bad(three + "inspectors at 0 up pace 1;", 1, three.length());
        bad(three + "coach 9 people 1;" + inspector, 2, three.length() + 6);
        String six = HEAD + rider.repeat(6);
        bad(six + rider, 3, six.length());
        bad(six + "rider", 3, six.length());
        bad(six + "rider in 99", 3, six.length());
        bad(six + "riders in 0", 1, six.length());
        bad(six + inspector.repeat(3) + rider, 3, six.length() + 75);
        good(six + inspector.repeat(3), 10);
    }

    private static void placesOfTheEnd() {
        bad("train", 1, 5);
        bad("train ", 1, 6);
        bad("train\n\n\n", 1, 8);
        bad(HEAD.substring(0, HEAD.length() - 1), 1, HEAD.length() - 1);
        bad(HEAD + "coach", 1, HEAD.length() + 5);
        bad(HEAD + "coach 1 people 5 loo doors", 1, HEAD.length() + 26);
        bad(HEAD + "coach 1 people 5 loo doors \n ", 1, HEAD.length() + 29);
        bad(HEAD + "inspector at 1 up pace 1 knocks", 1, HEAD.length() + 31);
        bad(HEAD + "rider in 1", 1, HEAD.length() + 10);
        good(HEAD + "   ", 1);
    }

    // ---- LINES ----

    private static void marksOnceInAnyOrder() {
        String[] coach = {"", " loo", " doors", " loo doors", " doors loo"};
        for (String marks : coach) {
            CoachAhead x = good(HEAD + "coach 2 people 5" + marks + ";", 2);
            CHECKS.due("loo of" + marks, x.coach(2, 1), marks.contains("loo") ? 1 : 0);
            CHECKS.due("doors of" + marks, x.coach(2, 2), marks.contains("doors") ? 1 : 0);
        }
        String[] inspector = {"", " turns", " knocks 100", " knocks 100 turns", " turns knocks 100"};
        for (String marks : inspector) {
            CoachAhead x = good(HEAD + "inspector at 2 down pace 5" + marks + ";", 2);
            CHECKS.due("knocks of" + marks, x.inspector(0, 3), marks.contains("knocks") ? 100 : 0);
            CHECKS.due("turns of" + marks, x.inspector(0, 4), marks.contains("turns") ? 1 : 0);
        }
        String[] twice = {"coach 2 people 5 loo #loo;", "coach 2 people 5 doors #doors;", "coach 2 people 5 loo doors #loo;",
            "coach 2 people 5 loo doors #doors;", "coach 2 people 5 doors loo #doors;", "coach 2 people 5 doors loo #loo;",
            "inspector at 2 up pace 5 turns #turns;", "inspector at 2 up pace 5 knocks 0 #knocks 0;",
            "inspector at 2 up pace 5 knocks 7 turns #knocks 7;", "inspector at 2 up pace 5 knocks 7 turns #turns;",
            "inspector at 2 up pace 5 turns knocks 7 #turns;", "inspector at 2 up pace 5 turns knocks 0 #knocks 101;",
            "rider in 2 stay sees 0 looks 0 ticket #ticket;"};
        for (String text : twice) {
            bad(HEAD + text.replace("#", ""), 1, HEAD.length() + text.indexOf('#'));
        }
    }

    private static void withoutLines() {
        CoachAhead x = good("train coaches 8 minutes 40 every 20 fare 99 fine 999;", 1);
        for (int c = 0; c < 8; c++) {
            for (int what = 0; what < 3; what++) {
                CHECKS.due("coach(" + c + ", " + what + ")", x.coach(c, what), 0);
            }
        }
        for (int d = 0; d < 7; d++) {
            CHECKS.due("day(" + d + ")", x.day(d), 0);
        }
        CHECKS.due("day(7)", x.day(7), -2);
        CHECKS.due("coach(8, 0)", x.coach(8, 0), -2);
        CHECKS.due("inspector(0, 0)", x.inspector(0, 0), -2);
        CHECKS.due("rider(0, 0)", x.rider(0, 0), -2);
    }

    private static void laterOnesStrike() {
        CoachAhead x = good(HEAD + "coach 3 people 99 loo doors; coach 3 people 0; day 6 odds 100; day 6 odds 0;", 5);
        for (int what = 0; what < 3; what++) {
            CHECKS.due("coach(3, " + what + ")", x.coach(3, what), 0);
        }
        CHECKS.due("day(6)", x.day(6), 0);
        x = good(HEAD + "coach 3 people 0; coach 3 people 99 loo doors; day 6 odds 0; day 6 odds 100;", 5);
        CHECKS.due("people", x.coach(3, 0), 99);
        CHECKS.due("loo", x.coach(3, 1), 1);
        CHECKS.due("doors", x.coach(3, 2), 1);
        CHECKS.due("day(6)", x.day(6), 100);
    }

    private static void numberedAsTheyStand() {
        CoachAhead x = good(HEAD + "rider in 3 round sees 7 looks 100 ticket; inspector at 3 down pace 20 turns knocks 100;"
            + "rider in 0 stay sees 0 looks 0; inspector at 0 up pace 1 knocks 0; rider in 1 forward sees 1 looks 1;"
            + "inspector at 1 up pace 2; rider in 2 loo sees 2 looks 2;", 8);
        int[][] inspectors = {{3, 1, 20, 100, 1}, {0, 0, 1, 0, 0}, {1, 0, 2, 0, 0}};
        int[][] riders = {{3, 3, 7, 100, 1}, {0, 0, 0, 0, 0}, {1, 1, 1, 1, 0}, {2, 2, 2, 2, 0}};
        for (int what = 0; what < 5; what++) {
            for (int i = 0; i < 3; i++) {
                CHECKS.due("inspector(" + i + ", " + what + ")", x.inspector(i, what), inspectors[i][what]);
            }
            for (int r = 0; r < 4; r++) {
                CHECKS.due("rider(" + r + ", " + what + ")", x.rider(r, what), riders[r][what]);
            }
        }
        CHECKS.due("inspector(3, 0)", x.inspector(3, 0), -2);
        CHECKS.due("inspector(0, 5)", x.inspector(0, 5), -2);
        CHECKS.due("rider(4, 0)", x.rider(4, 0), -2);
        CHECKS.due("rider(0, 5)", x.rider(0, 5), -2);
    }
}
