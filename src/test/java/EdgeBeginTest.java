/** The edges of promises 28 to 37: how many INSPECTORS, by which BEGINS, and RULES against BEGINS. */
public final class EdgeBeginTest {
    private static final Checks CHECKS = new Checks();

    public static void main(String[] args) {
        oneTwoThreeNone();
        twoAndThreeThatMeet();
        loosAndKnocks();
        fullSearch();
        onlyInspectorNought();
        leavesOfEachBegin();
        leavesOfLoos();
        beginFirstAndLast();
        tableFromNoughtToTheEnd();
        replies();
        answersAndRests();
        CHECKS.close("EdgeBeginTest");
    }

    private static String head(int coaches, int minutes, int every) {
        return "train coaches " + coaches + " minutes " + minutes + " every " + every + " fare 0 fine 0;";
    }

    private static void row(String text, int... due) {
        CHECKS.due("fewest() of " + text, Checks.of(text).fewest(), due.length == 0 ? -1 : due.length);
        CoachAhead x = Checks.of(text);
        for (int i = 0; i < due.length; i++) {
            CHECKS.due("begins(" + i + ") of " + text, x.begins(i), due[i]);
        }
        int[] beyond = {-1, due.length, 3, 4, Integer.MIN_VALUE, Integer.MAX_VALUE};
        for (int i : beyond) {
            CHECKS.due("begins(" + i + ") of " + text, x.begins(i), -1);
        }
    }

    // ---- promises 28 and 29 ----

    private static void oneTwoThreeNone() {
        String in = "inspector at 1 down pace 1;";
        // One MINUTE: each has the COACH it begins in.
        row(head(2, 1, 1) + in, 0, 2);
        row(head(3, 1, 1) + in, 0, 2, 4);
        row(head(4, 1, 1) + in);
        row(head(8, 1, 1) + in);
        // It goes through all eight, or one COACH is left over.
        row(head(8, 8, 20) + in, 0);
        row(head(8, 7, 20) + in, 0, 2);
        CoachAhead x = Checks.of(head(8, 40, 1));
        CHECKS.due("fewest() without INSPECTORS", x.fewest(), -2);
        CHECKS.due("begins(0) without INSPECTORS", x.begins(0), -2);
        CHECKS.due("begins(-1) without INSPECTORS", x.begins(-1), -2);
    }

    private static void twoAndThreeThatMeet() {
        // Two MINUTES: who is not in a COACH where one begins must be met whichever way he goes.
        String in = "inspector at 0 up pace 1;";
        row(head(4, 2, 9) + in, 0, 7);
        row(head(5, 2, 9) + in, 0, 2, 9);
        row(head(6, 2, 9) + in, 0, 7, 8);
        row(head(7, 2, 9) + in);
    }

    private static void loosAndKnocks() {
        // In the LOO of 5 he hides from one that does not knock, so one has to begin there.
        row(head(6, 2, 9) + "coach 5 people 0 loo; inspector at 0 up pace 1;", 3, 4, 11);
        row(head(6, 2, 9) + "coach 5 people 0 loo; inspector at 0 up pace 1 knocks 0;", 3, 4, 11);
        row(head(6, 2, 9) + "coach 5 people 0 loo; inspector at 0 up pace 1 knocks 1;", 0, 7, 8);
        row(head(4, 2, 9) + "coach 1 people 0 loo; inspector at 0 up pace 1 knocks 1;", 0, 7);
        row(head(4, 2, 9) + "coach 1 people 0 loo; coach 2 people 0 loo; inspector at 0 up pace 1;", 3, 4);
        row(head(4, 2, 9) + "coach 1 people 0 loo; coach 3 people 0 loo; inspector at 0 up pace 1;", 0, 2, 7);
    }

    private static void fullSearch() {
        StringBuilder loos = new StringBuilder(head(8, 40, 1));
        for (int c = 0; c < 8; c++) {
            loos.append("coach ").append(c).append(" people 0 loo doors;");
        }
        row(loos + "inspector at 7 down pace 1 turns;");
        row(head(8, 40, 20) + "inspector at 7 down pace 20 turns;", 0);
        // COACHES that take longer than the ride: three cannot be in eight.
        StringBuilder people = new StringBuilder(head(8, 40, 20));
        for (int c = 0; c < 8; c++) {
            people.append("coach ").append(c).append(" people 99;");
        }
        row(people + "inspector at 7 down pace 1;");
    }

    private static void onlyInspectorNought() {
        // Of its pace, knocks and turning; the others, and where it begins, are of no account.
        String others = "inspector at 1 up pace 1 knocks 100 turns; inspector at 0 up pace 1 knocks 100 turns;";
        String loo = head(2, 2, 9) + "coach 1 people 3 loo;";
        row(loo + "inspector at 1 up pace 20;" + others, 3);
        row(loo + "inspector at 0 down pace 3;" + others, 0, 2);
        row(loo + "inspector at 0 down pace 4 knocks 1;" + others, 0);
        CoachAhead x = Checks.of(loo + "inspector at 1 up pace 20;");
        CHECKS.due("fewest()", x.fewest(), 1);
        x.send(0, 1);
        CHECKS.due("fewest() after send()", x.fewest(), 1);
        CHECKS.due("begins(0) after send()", x.begins(0), 3);
    }

    // ---- promises 30 and 31 ----

    private static void leavesOfEachBegin() {
        CoachAhead x = Checks.of(head(8, 40, 20) + "inspector at 3 up pace 1; inspector at 0 up pace 1;");
        int[] leaves = {0, 7, 1, 6, 2, 5, 3, 4, 4, 3, 5, 2, 6, 1, 7, 0};
        for (int b = 0; b < 16; b++) {
            CHECKS.due("leaves(" + b + ")", x.leaves(b), leaves[b]);
        }
        int[] wrong = {-1, 16, Integer.MIN_VALUE, Integer.MAX_VALUE};
        for (int b : wrong) {
            CHECKS.due("leaves(" + b + ")", x.leaves(b), -2);
        }
        x = Checks.of(head(2, 1, 1) + "inspector at 0 up pace 1; inspector at 1 up pace 1;");
        CHECKS.due("leaves(3), alone", x.leaves(3), 1);
        CHECKS.due("leaves(4)", x.leaves(4), -2);
        CHECKS.due("leaves(0) without INSPECTORS", Checks.of(head(2, 1, 1)).leaves(0), -2);
    }

    private static void leavesOfLoos() {
        String loo = head(2, 2, 9) + "coach 1 people 0 loo; inspector at 1 down pace 1 %s; inspector at 0 up pace 1 %s;";
        CHECKS.due("leaves(0)", Checks.of(String.format(loo, "", "knocks 1")).leaves(0), 1);
        CHECKS.due("leaves(0)", Checks.of(String.format(loo, "knocks 0", "knocks 1")).leaves(0), 1);
        CHECKS.due("leaves(0)", Checks.of(String.format(loo, "knocks 1", "")).leaves(0), 0);
        CHECKS.due("leaves(0)", Checks.of(String.format(loo, "knocks 100", "")).leaves(0), 0);
    }

    private static void beginFirstAndLast() {
        CHECKS.due("begin(): the first", Checks.of(head(8, 40, 20) + "inspector at 3 up pace 1;").begin(), 0);
        CHECKS.due("begin(): all alike", Checks.of(head(2, 1, 1) + "inspector at 1 up pace 1;").begin(), 0);
        CHECKS.due("begin(): the last", Checks.of(head(8, 8, 20) + "coach 0 people 1; inspector at 3 up pace 1;").begin(), 15);
        // In 0 and 3 it would stay to the END: BEGINS 2 and 5 alone go through three COACHES.
        CoachAhead x = Checks.of(head(4, 4, 9) + "inspector at 0 up pace 1; coach 0 people 9; coach 3 people 9;");
        int[] leaves = {3, 3, 1, 2, 2, 1, 3, 3};
        for (int b = 0; b < 8; b++) {
            CHECKS.due("leaves(" + b + ")", x.leaves(b), leaves[b]);
        }
        CHECKS.due("begin(): the first of two", x.begin(), 2);
        x = Checks.of(head(2, 2, 9) + "coach 0 people 1; inspector at 0 up pace 1;");
        CHECKS.due("begin() of COACH 1, down", x.begin(), 3);
        CHECKS.due("begin() without INSPECTORS", Checks.of(head(2, 1, 1)).begin(), -2);
    }

    // ---- promises 32 to 37 ----

    private static void tableFromNoughtToTheEnd() {
        CoachAhead x = Checks.of(head(8, 40, 20) + "inspector at 3 up pace 1; inspector at 7 up pace 1;"
            + "rider in 7 forward sees 7 looks 0;");
        // INSPECTOR 0 alone, not the one in 7.
        for (int b = 0; b < 16; b++) {
            int due = b >= 14 ? 0 : b % 2 == 1 ? 40 : 7 - b / 2;
            CHECKS.due("table(0, 0, " + b + ")", x.table(0, 0, b), due);
        }
        CHECKS.due("table(0, 3, 15)", x.table(0, 3, 15), 0);
        CHECKS.due("table(0, 4, 15)", x.table(0, 4, 15), -2);
        CHECKS.due("table(0, -1, 15)", x.table(0, -1, 15), -2);
        CHECKS.due("table(0, 3, 16)", x.table(0, 3, 16), -2);
        CHECKS.due("table(0, 3, -1)", x.table(0, 3, -1), -2);
        CHECKS.due("table(1, 3, 15)", x.table(1, 3, 15), -2);
        CHECKS.due("table(-1, 3, 15)", x.table(-1, 3, 15), -2);
        x = Checks.of(head(2, 1, 1) + "inspector at 0 up pace 1; rider in 1 stay sees 0 looks 0;");
        CHECKS.due("the END of one MINUTE", x.table(0, 0, 0), 1);
        CHECKS.due("HAD in it", x.table(0, 0, 2), 0);
        x = Checks.of(head(2, 1, 1) + "rider in 1 stay sees 0 looks 0;");
        CHECKS.due("table() without INSPECTORS", x.table(0, 0, 0), -2);
        CHECKS.due("table() without RIDERS", Checks.of(head(2, 1, 1) + "inspector at 0 up pace 1;").table(0, 0, 0), -2);
    }

    private static void replies() {
        // From 0 it comes to 1: STAY and LOO are HAD in 1, FORWARD not by the END.
        CoachAhead x = Checks.of(head(3, 2, 9) + "inspector at 2 up pace 1; rider in 1 stay sees 1 looks 0;");
        CHECKS.due("reply(0, 0): FORWARD", x.reply(0, 0), 1);
        CHECKS.due("reply(0, 1): all alike", x.reply(0, 1), 0);
        CHECKS.due("reply(0, 2): all HAD at once", x.reply(0, 2), 0);
        CHECKS.due("reply(0, 5): FORWARD, down", x.reply(0, 5), 1);
        CHECKS.due("reply(0, 6)", x.reply(0, 6), -2);
        CHECKS.due("reply(0, -1)", x.reply(0, -1), -2);
        CHECKS.due("reply(1, 0)", x.reply(1, 0), -2);
        // In COACH 2 there is none beside: FORWARD is HAD too, the LOO hides.
        x = Checks.of(head(3, 3, 9) + "coach 2 people 0 loo; inspector at 2 up pace 1; rider in 2 stay sees 1 looks 0;");
        CHECKS.due("reply(0, 0): LOO", x.reply(0, 0), 2);
        // It stays in 1 till the STOP in 1, and comes to 2 then: only ROUND gets away.
        x = Checks.of(head(3, 3, 1) + "coach 0 people 0 doors; coach 1 people 1; coach 2 people 0 doors;"
            + "inspector at 2 up pace 1; rider in 2 stay sees 7 looks 0;");
        int[] table = {2, 2, 2, 2};
        for (int rule = 0; rule < 4; rule++) {
            CHECKS.due("table(0, " + rule + ", 2)", x.table(0, rule, 2), table[rule]);
        }
        CHECKS.due("reply(0, 2): alike far, so no ROUND", x.reply(0, 2), 0);
        x = Checks.of(head(4, 3, 1) + "coach 0 people 0 doors; coach 2 people 1; coach 3 people 0 doors;"
            + "inspector at 2 up pace 1; rider in 3 stay sees 7 looks 0;");
        CHECKS.due("table(0, 3, 4)", x.table(0, 3, 4), 3);
        CHECKS.due("table(0, 1, 4)", x.table(0, 1, 4), 2);
        CHECKS.due("reply(0, 4): ROUND", x.reply(0, 4), 3);
    }

    private static void answersAndRests() {
        // The RIDER's own COACH is the earliest whatever he does: INSPECTOR 0 has him there in MINUTE 0.
        StringBuilder text = new StringBuilder(head(8, 40, 1) + "coach 0 people 3 loo doors; coach 5 people 9 loo doors;"
            + "inspector at 7 down pace 2 knocks 1; inspector at 1 up pace 2;");
        for (int c = 0; c < 8; c += 2) {
            text.append("rider in ").append(c == 6 ? 7 : c).append(" stay sees ").append(c).append(" looks 0;");
        }
        int[] in = {0, 2, 4, 7};
        for (int r = 0; r < 4; r++) {
            for (int rule = 0; rule < 4; rule++) {
                CHECKS.due("answer(" + r + ", " + rule + ")", Checks.of(text.toString()).answer(r, rule), 2 * in[r]);
            }
            CHECKS.due("rests(" + r + ")", Checks.of(text.toString()).rests(r), 8);
            CHECKS.due("rest(" + r + ")", Checks.of(text.toString()).rest(r), 2 * in[r]);
            CHECKS.due("sure(" + r + ")", Checks.of(text.toString()).sure(r), 0);
        }
        CoachAhead x = Checks.of(text.toString());
        int[] wrong = {-1, 4, Integer.MIN_VALUE, Integer.MAX_VALUE};
        for (int w : wrong) {
            CHECKS.due("answer(0, " + w + ")", x.answer(0, w), -2);
            CHECKS.due("answer(" + w + ", 0)", x.answer(w, 0), -2);
            CHECKS.due("rests(" + w + ")", x.rests(w), -2);
            CHECKS.due("rest(" + w + ")", x.rest(w), -2);
            CHECKS.due("sure(" + w + ")", x.sure(w), -2);
        }
    }
}
