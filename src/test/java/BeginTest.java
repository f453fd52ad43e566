/** Promises 28 to 37: BEGINS, and RULES against them. */
public final class BeginTest {
    private static final Checks CHECKS = new Checks();
    private static final String TABLE = "train coaches 3 minutes 5 every 2 fare 10 fine 40; coach 0 people 0 doors;"
        + "coach 2 people 3 loo doors; inspector at 0 up pace 3 knocks 50; rider in 2 stay sees 1 looks 10;";

    public static void main(String[] args) {
        fewest();
        leavings();
        tableOfOne();
        tableOfFour();
        wrongInputs();
        CHECKS.close("BeginTest");
    }

    private static void row(String text, int fewest, int... begins) {
        CoachAhead x = Checks.of(text);
        CHECKS.due("fewest() of " + text, x.fewest(), fewest);
        for (int i = 0; i < 4; i++) {
            CHECKS.due("begins(" + i + ") of " + text, x.begins(i), i < begins.length ? begins[i] : -1);
        }
        CHECKS.due("begins(-1)", x.begins(-1), -1);
    }

    private static void fewest() {
        row(Trains.SHUTTLE, 1, 0);
        row("train coaches 2 minutes 1 every 1 fare 0 fine 0; inspector at 1 down pace 1;", 2, 0, 2);
        row("train coaches 3 minutes 1 every 1 fare 0 fine 0; inspector at 1 down pace 1;", 3, 0, 2, 4);
        row("train coaches 4 minutes 1 every 1 fare 0 fine 0; inspector at 1 down pace 1;", -1);
        row("train coaches 8 minutes 1 every 1 fare 0 fine 0; inspector at 1 down pace 1;", -1);
        row("train coaches 8 minutes 40 every 1 fare 0 fine 0; inspector at 1 down pace 1;", 1, 0);
        // One goes up through all, and is out again only behind the END.
        row("train coaches 4 minutes 4 every 9 fare 0 fine 0; inspector at 2 down pace 1;", 1, 0);
        row("train coaches 4 minutes 3 every 9 fare 0 fine 0; inspector at 2 down pace 1;", 2, 0, 2);
        // A LOO hides, unless it knocks.
        String loos = "train coaches 4 minutes 9 every 9 fare 0 fine 0; coach 0 people 0 loo; coach 1 people 0 loo;"
            + "coach 2 people 0 loo; coach 3 people 0 loo;";
        row(loos + "inspector at 0 up pace 1;", -1);
        row(loos + "inspector at 0 up pace 1 knocks 1;", 1, 0);
        // Only INSPECTOR 0 counts, wherever it is.
        CoachAhead x = Checks.of("train coaches 2 minutes 2 every 9 fare 0 fine 0; inspector at 1 up pace 1;"
            + "inspector at 0 up pace 20 knocks 5 turns;");
        CHECKS.due("fewest()", x.fewest(), 1);
        x.set(0, 0, 1);
        CHECKS.due("fewest() after set()", x.fewest(), 1);
        CHECKS.due("begins(0) after set()", x.begins(0), 3);
        x.set(1, 0, 1);
        CHECKS.due("fewest() after set()", x.fewest(), 2);
        CHECKS.due("begins(1)", x.begins(1), 2);
        x.undo();
        CHECKS.due("fewest() after undo()", x.fewest(), 1);
        x.image(0);
        x.undo();
        CHECKS.due("begins(0) after undo()", x.begins(0), 0);
        x.back(0);
        CHECKS.due("begins(0) after back()", x.begins(0), 3);
        Checks.type(x, "train coaches 2 minutes 1 every 1 fare 0 fine 0; inspector at 1 down pace 1;");
        x.train();
        CHECKS.due("fewest() after train()", x.fewest(), 2);
        Checks.type(x, Trains.BARE);
        x.train();
        CHECKS.due("fewest() without INSPECTORS", x.fewest(), -2);
    }

    private static void leavings() {
        CoachAhead x = Checks.of("train coaches 3 minutes 3 every 9 fare 0 fine 0; inspector at 1 up pace 1;");
        int[] leaves = {0, 2, 1, 1, 2, 0};
        for (int b = 0; b < leaves.length; b++) {
            CHECKS.due("leaves(" + b + ")", x.leaves(b), leaves[b]);
        }
        CHECKS.due("begin()", x.begin(), 0);
        x.set(0, 0, 1);
        CHECKS.due("leaves(0)", x.leaves(0), 2);
        CHECKS.due("leaves(5)", x.leaves(5), 0);
        CHECKS.due("begin()", x.begin(), 5);
        CHECKS.due("the INSPECTOR is where it was", x.at(0, 0), 1);
    }

    private static void tableOfOne() {
        CoachAhead x = Checks.of(TABLE);
        int[] row = {2, 5, 1, 5, 0, 0};
        for (int rule = 0; rule < 4; rule++) {
            for (int b = 0; b < row.length; b++) {
                CHECKS.due("table(0, " + rule + ", " + b + ")", x.table(0, rule, b), row[b]);
                CHECKS.due("reply(0, " + b + ")", x.reply(0, b), 0);
            }
            CHECKS.due("answer(0, " + rule + ")", x.answer(0, rule), 4);
        }
        CHECKS.due("rests(0)", x.rests(0), 8);
        CHECKS.due("rest(0)", x.rest(0), 4);
        CHECKS.due("sure(0)", x.sure(0), 0);
    }

    private static void tableOfFour() {
        CoachAhead x = Checks.of(Trains.FOUR + "inspector at 3 down pace 1;");
        int[] byRule = {4, 5, 4, 4};
        for (int rule = 0; rule < 4; rule++) {
            CHECKS.due("table(0, " + rule + ", 0)", x.table(0, rule, 0), byRule[rule]);
        }
        CHECKS.due("reply(0, 0)", x.reply(0, 0), 1);
        // RIDER 1 hides in the LOO of 1 by that RULE alone, and forward goes ahead for long.
        CHECKS.due("table(1, 2, 0)", x.table(1, 2, 0), 8);
        CHECKS.due("table(1, 0, 0)", x.table(1, 0, 0), 1);
        CHECKS.due("table(1, 1, 0)", x.table(1, 1, 0), 5);
        CHECKS.due("reply(1, 0)", x.reply(1, 0), 2);
        CHECKS.due("table(2, 3, 2)", x.table(2, 3, 2), 8);
        CHECKS.due("had(0) by the TRIP", x.had(0), 1);
    }

    private static void wrongInputs() {
        CoachAhead x = Checks.of(TABLE);
        int[] wrong = {-1, 6, 99, Integer.MIN_VALUE, Integer.MAX_VALUE};
        for (int w : wrong) {
            CHECKS.due("leaves", x.leaves(w), -2);
            CHECKS.due("table", x.table(w, 0, 0), -2);
            CHECKS.due("table", x.table(0, w, 0), -2);
            CHECKS.due("table", x.table(0, 0, w), -2);
            CHECKS.due("reply", x.reply(w, 0), -2);
            CHECKS.due("reply", x.reply(0, w), -2);
            CHECKS.due("answer", x.answer(w, 0), -2);
            CHECKS.due("answer", x.answer(0, w), -2);
            CHECKS.due("rests", x.rests(w), -2);
            CHECKS.due("rest", x.rest(w), -2);
            CHECKS.due("sure", x.sure(w), -2);
        }
        CHECKS.due("table(0, 4, 0)", x.table(0, 4, 0), -2);
        CHECKS.due("answer(0, 4)", x.answer(0, 4), -2);
        CHECKS.due("table(1, 0, 0)", x.table(1, 0, 0), -2);
        none(Checks.of(Trains.BARE + "rider in 0 stay sees 0 looks 0;"));
        none(new CoachAhead());
    }

    private static void none(CoachAhead x) {
        CHECKS.due("fewest", x.fewest(), -2);
        CHECKS.due("begins", x.begins(0), -2);
        CHECKS.due("leaves", x.leaves(0), -2);
        CHECKS.due("begin", x.begin(), -2);
        CHECKS.due("table", x.table(0, 0, 0), -2);
        CHECKS.due("reply", x.reply(0, 0), -2);
        CHECKS.due("answer", x.answer(0, 0), -2);
        CHECKS.due("rests", x.rests(0), -2);
        CHECKS.due("rest", x.rest(0), -2);
        CHECKS.due("sure", x.sure(0), -2);
    }
}
