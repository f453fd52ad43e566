/** The edges of Term V and of promises 38 to 46: how many to ask, and when to pay. */
public final class EdgeMoneyTest {
    private static final Checks CHECKS = new Checks();
    private static final int MIN = Integer.MIN_VALUE;
    private static final int MAX = Integer.MAX_VALUE;

    public static void main(String[] args) {
        asksFromNoneToSix();
        asksOfLikeLooks();
        asksWithoutRiders();
        dodgesIfLess();
        weekAtItsEnds();
        fineAtItsEnds();
        oftenAtItsEnds();
        meanInLowestTerms();
        learnsFromNoneToSeven();
        ticketsMakeNoDifference();
        CHECKS.close("EdgeMoneyTest");
    }

    /** RIDER 0 is HAD by the TRIP, RIDER 1 is not; the odds of the DAYS as given, from DAY 0 on. */
    private static CoachAhead pays(int fare, int fine, int... odds) {
        StringBuilder text = new StringBuilder("train coaches 2 minutes 1 every 1 fare " + fare + " fine " + fine
            + "; inspector at 0 up pace 1; rider in 0 stay sees 0 looks 0; rider in 1 stay sees 0 looks 0;");
        for (int d = 0; d < odds.length; d++) {
            text.append("day ").append(d).append(" odds ").append(odds[d]).append(";");
        }
        return Checks.of(text.toString());
    }

    private static CoachAhead riders(String... looks) {
        StringBuilder text = new StringBuilder("train coaches 2 minutes 1 every 1 fare 1 fine 1;");
        for (String l : looks) {
            text.append("rider in 0 stay sees 0 looks ").append(l).append(";");
        }
        return Checks.of(text.toString());
    }

    // ---- promises 38 to 40 ----

    private static void asked(CoachAhead x, int asks, int[] bits, int[] found) {
        for (int n = 0; n <= 6; n++) {
            CHECKS.due("ask(" + n + ")", x.ask(n), bits[n]);
            CHECKS.due("found(" + n + ")", x.found(n), found[n]);
        }
        CHECKS.due("asks()", x.asks(), asks);
        int[] wrong = {-1, 7, MIN, MAX};
        for (int n : wrong) {
            CHECKS.due("ask(" + n + ")", x.ask(n), -2);
            CHECKS.due("found(" + n + ")", x.found(n), -2);
        }
    }

    private static void asksFromNoneToSix() {
        asked(riders("0", "20", "40", "60", "80", "100"), 6, new int[] {0, 32, 48, 56, 60, 62, 63},
            new int[] {0, 1, 2, 3, 4, 5, 6});
        asked(riders("100 ticket", "80", "60 ticket", "40", "20 ticket", "0 ticket"), 4, new int[] {0, 1, 3, 7, 15, 31, 63},
            new int[] {0, 0, 1, 1, 2, 2, 2});
        asked(riders("0", "1 ticket", "2 ticket", "3 ticket", "4 ticket", "5 ticket"), 6, new int[] {0, 32, 48, 56, 60, 62, 63},
            new int[] {0, 0, 0, 0, 0, 0, 1});
        asked(riders("9", "1 ticket", "2 ticket", "3 ticket", "4 ticket", "5 ticket"), 1, new int[] {0, 1, 33, 49, 57, 61, 63},
            new int[] {0, 1, 1, 1, 1, 1, 1});
        String[] all = {"5 ticket", "5 ticket", "5 ticket", "5 ticket", "5 ticket", "5 ticket"};
        asked(riders(all), 0, new int[] {0, 1, 3, 7, 15, 31, 63}, new int[7]);
    }

    private static void asksOfLikeLooks() {
        // Looks 0 too: all alike, the lesser first.
        asked(riders("0", "0", "0 ticket"), 2, new int[] {0, 1, 3, 7, 7, 7, 7}, new int[] {0, 1, 2, 2, 2, 2, 2});
        asked(riders("100 ticket", "100"), 2, new int[] {0, 1, 3, 3, 3, 3, 3}, new int[] {0, 0, 1, 1, 1, 1, 1});
        asked(riders("99", "100"), 2, new int[] {0, 2, 3, 3, 3, 3, 3}, new int[] {0, 1, 2, 2, 2, 2, 2});
    }

    private static void asksWithoutRiders() {
        asked(riders(), 0, new int[7], new int[7]);
        CoachAhead x = new CoachAhead();
        CHECKS.due("ask(0) without a TRAIN", x.ask(0), -2);
        CHECKS.due("found(0) without a TRAIN", x.found(0), -2);
        CHECKS.due("asks() without a TRAIN", x.asks(), -2);
    }

    // ---- promises 41 to 46 ----

    private static void dodgesIfLess() {
        // A fare of 50 by odds 50: a fine of 99 costs less, one of 100 alike, one of 101 more.
        int[][] cases = {{50, 99, 50, 1}, {50, 100, 50, 0}, {50, 101, 50, 0}, {50, 100, 49, 1}, {50, 100, 51, 0},
            {0, 0, 0, 0}, {0, 999, 0, 0}, {0, 0, 100, 0}, {1, 0, 100, 1}, {1, 999, 0, 1}, {99, 99, 100, 0}, {99, 98, 100, 1},
            {9, 900, 1, 0}, {9, 899, 1, 1}, {99, 999, 9, 1}, {99, 999, 10, 0}};
        for (int[] c : cases) {
            CoachAhead x = pays(c[0], c[1], c[2]);
            String about = " of fare " + c[0] + ", fine " + c[1] + ", odds " + c[2];
            CHECKS.due("dodges(0, 0)" + about, x.dodges(0, 0), c[3]);
            // Who is never HAD pays only what is free.
            CHECKS.due("dodges(1, 0)" + about, x.dodges(1, 0), c[0] == 0 ? 0 : 1);
        }
        CoachAhead x = pays(1, 1, 0, 0, 0, 0, 0, 0, 100);
        CHECKS.due("dodges(0, 5)", x.dodges(0, 5), 1);
        CHECKS.due("dodges(0, 6)", x.dodges(0, 6), 0);
        CHECKS.due("dodges(0, 7)", x.dodges(0, 7), -2);
        CHECKS.due("dodges(0, -1)", x.dodges(0, -1), -2);
        CHECKS.due("dodges(2, 0)", x.dodges(2, 0), -2);
    }

    private static void weekAtItsEnds() {
        CHECKS.due("week(0): all paid", pays(99, 999, 100, 100, 100, 100, 100, 100, 100).week(0), 69300);
        CHECKS.due("week(1): never HAD", pays(99, 999, 100, 100, 100, 100, 100, 100, 100).week(1), 0);
        CHECKS.due("week(0): no odds", pays(99, 999).week(0), 0);
        CHECKS.due("week(0): free", pays(0, 999, 100, 100).week(0), 0);
        CHECKS.due("week(0): no fine", pays(99, 0, 100, 100).week(0), 0);
        // One hundredth below the fare, alike, one above.
        CHECKS.due("week(0)", pays(1, 1, 99, 100).week(0), 199);
        CHECKS.due("week(0)", pays(1, 100, 0, 1, 2).week(0), 200);
        CHECKS.due("week(0): the last DAY", pays(9, 1, 0, 0, 0, 0, 0, 0, 7).week(0), 7);
        CHECKS.due("week(2)", pays(1, 1).week(2), -2);
        CHECKS.due("week(-1)", pays(1, 1).week(-1), -2);
    }

    private static void fineAtItsEnds() {
        int[][] cases = {{0, 0, 0}, {0, 100, 0}, {1, 100, 1}, {1, 99, 2}, {1, 1, 100}, {1, 0, -1}, {99, 1, 9900}, {99, 0, -1},
            {99, 100, 99}, {50, 50, 100}, {50, 51, 99}, {50, 49, 103}, {3, 7, 43}};
        for (int[] c : cases) {
            // The fine as it is does not matter.
            CoachAhead x = pays(c[0], c[0] % 2 * 999, c[1]);
            CHECKS.due("fine(0, 0) of fare " + c[0] + ", odds " + c[1], x.fine(0, 0), c[2]);
            CHECKS.due("fine(1, 0) of fare " + c[0], x.fine(1, 0), c[0] == 0 ? 0 : -1);
        }
        CoachAhead x = pays(2, 0, 0, 0, 0, 0, 0, 0, 50);
        CHECKS.due("fine(0, 6)", x.fine(0, 6), 4);
        CHECKS.due("fine(0, 5)", x.fine(0, 5), -1);
        CHECKS.due("fine(0, 7)", x.fine(0, 7), -2);
        CHECKS.due("fine(0, -1)", x.fine(0, -1), -2);
        CHECKS.due("fine(2, 0)", x.fine(2, 0), -2);
    }

    private static void oftenAtItsEnds() {
        int[][] cases = {{0, 0, 0}, {0, 999, 0}, {1, 999, 1}, {99, 99, 100}, {99, 98, -1}, {98, 99, 99}, {1, 0, -1}, {1, 1, 100},
            {50, 100, 50}, {50, 99, 51}, {50, 101, 50}, {99, 999, 10}, {9, 900, 1}, {9, 899, 2}};
        for (int[] c : cases) {
            CoachAhead x = pays(c[0], c[1]);
            CHECKS.due("often(0) of fare " + c[0] + ", fine " + c[1], x.often(0), c[2]);
            CHECKS.due("often(1) of fare " + c[0], x.often(1), c[0] == 0 ? 0 : -1);
        }
        CHECKS.due("often(2)", pays(1, 1).often(2), -2);
        CHECKS.due("often(-1)", pays(1, 1).often(-1), -2);
    }

    private static void mean(CoachAhead x, int rider, int above, int below) {
        CHECKS.due("mean(" + rider + ", 0)", x.mean(rider, 0), above);
        CHECKS.due("mean(" + rider + ", 1)", x.mean(rider, 1), below);
    }

    private static void meanInLowestTerms() {
        mean(pays(1, 999, 100, 100, 100, 100, 100, 100, 100), 0, 999, 1);
        mean(pays(1, 999, 100, 100, 100, 100, 100, 100, 100), 1, 0, 1);
        mean(pays(1, 999), 0, 0, 1);
        mean(pays(1, 0, 100), 0, 0, 1);
        mean(pays(1, 1, 1), 0, 1, 700);
        mean(pays(1, 1, 0, 0, 0, 0, 0, 0, 100), 0, 1, 7);
        mean(pays(1, 7, 1), 0, 1, 100);
        mean(pays(1, 999, 99), 0, 98901, 700);
        mean(pays(1, 50, 14, 7), 0, 3, 2);
        // He never pays, even where that would be free.
        mean(pays(0, 700, 1), 0, 1, 1);
        CoachAhead x = pays(1, 1, 1);
        CHECKS.due("mean(0, 2)", x.mean(0, 2), -2);
        CHECKS.due("mean(0, -1)", x.mean(0, -1), -2);
        CHECKS.due("mean(2, 0)", x.mean(2, 0), -2);
        CHECKS.due("mean(-1, 1)", x.mean(-1, 1), -2);
    }

    private static void learnsFromNoneToSeven() {
        for (int n = 0; n <= 7; n++) {
            CHECKS.due("learns(0, " + n + ")", pays(9, 999).learns(0, n), n);
            CHECKS.due("learns(0, " + n + ") alike", pays(99, 99).learns(0, n), n);
            CHECKS.due("learns(0, " + n + ") less", pays(99, 98).learns(0, n), 0);
            CHECKS.due("learns(0, " + n + ") free", pays(0, 0).learns(0, n), 7);
            CHECKS.due("learns(1, " + n + ") never HAD", pays(1, 999, 100).learns(1, n), 0);
            CHECKS.due("learns(1, " + n + ") free", pays(0, 999, 100).learns(1, n), 7);
        }
        CoachAhead x = pays(1, 1);
        CHECKS.due("learns(0, 8)", x.learns(0, 8), -2);
        CHECKS.due("learns(0, -1)", x.learns(0, -1), -2);
        CHECKS.due("learns(2, 0)", x.learns(2, 0), -2);
        CHECKS.due("learns(-1, 0)", x.learns(-1, 0), -2);
    }

    private static void ticketsMakeNoDifference() {
        CoachAhead x = Checks.of("train coaches 2 minutes 1 every 1 fare 2 fine 100; inspector at 0 up pace 1;"
            + "rider in 0 stay sees 0 looks 0 ticket; day 0 odds 3;");
        CHECKS.due("dodges(0, 0)", x.dodges(0, 0), 0);
        CHECKS.due("dodges(0, 1)", x.dodges(0, 1), 1);
        CHECKS.due("week(0)", x.week(0), 200);
        CHECKS.due("often(0)", x.often(0), 2);
        mean(x, 0, 3, 7);
    }
}
