/** Promises 38 to 46: whom to ask, and when it pays not to pay. */
public final class MoneyTest {
    private static final Checks CHECKS = new Checks();

    public static void main(String[] args) {
        asking();
        paying();
        freeRides();
        dearRides();
        wrongInputs();
        CHECKS.close("MoneyTest");
    }

    private static void asking() {
        CoachAhead x = Checks.of(Trains.FOUR);
        int[] ask = {0, 2, 6, 7, 15, 15, 15, -2};
        int[] found = {0, 0, 1, 2, 3, 3, 3, -2};
        for (int n = 0; n < ask.length; n++) {
            CHECKS.due("ask(" + n + ")", x.ask(n), ask[n]);
            CHECKS.due("found(" + n + ")", x.found(n), found[n]);
        }
        CHECKS.due("asks()", x.asks(), 4);
        x = Checks.of(Trains.BARE + "rider in 0 stay sees 0 looks 1 ticket; rider in 0 stay sees 0 looks 9;"
            + "rider in 0 stay sees 0 looks 1 ticket; rider in 0 stay sees 0 looks 9 ticket;"
            + "rider in 0 stay sees 0 looks 5; rider in 0 stay sees 0 looks 5 ticket;");
        int[] bits = {0, 2, 10, 26, 58, 59, 63};
        for (int n = 0; n < bits.length; n++) {
            CHECKS.due("ask(" + n + ")", x.ask(n), bits[n]);
        }
        CHECKS.due("found(1)", x.found(1), 1);
        CHECKS.due("found(2)", x.found(2), 1);
        CHECKS.due("found(3)", x.found(3), 2);
        CHECKS.due("asks()", x.asks(), 3);
        x = Checks.of(Trains.BARE);
        CHECKS.due("asks()", x.asks(), 0);
        CHECKS.due("ask(6)", x.ask(6), 0);
        x = Checks.of(Trains.BARE + "rider in 0 stay sees 0 looks 1 ticket;");
        CHECKS.due("asks()", x.asks(), 0);
    }

    private static void mean(CoachAhead x, int rider, int above, int below) {
        CHECKS.due("mean(" + rider + ", 0)", x.mean(rider, 0), above);
        CHECKS.due("mean(" + rider + ", 1)", x.mean(rider, 1), below);
    }

    private static void paying() {
        CoachAhead x = Checks.of(Trains.FOUR);
        // RIDER 0 is HAD; the fare is 300 hundredths, the fine 60; odds 5 on day 1 are just alike.
        int[] dodges = {1, 0, 1, 1, 0, 1, 1};
        int[] fine = {-1, 60, -1, -1, 6, -1, -1};
        for (int d = 0; d < 7; d++) {
            CHECKS.due("dodges(0, " + d + ")", x.dodges(0, d), dodges[d]);
            CHECKS.due("fine(0, " + d + ")", x.fine(0, d), fine[d]);
            // RIDER 1 is never HAD.
            CHECKS.due("dodges(1, " + d + ")", x.dodges(1, d), 1);
            CHECKS.due("fine(1, " + d + ")", x.fine(1, d), -1);
        }
        CHECKS.due("week(0)", x.week(0), 600);
        CHECKS.due("week(1)", x.week(1), 0);
        CHECKS.due("often(0)", x.often(0), 5);
        CHECKS.due("often(1)", x.often(1), -1);
        mean(x, 0, 33, 7);
        mean(x, 1, 0, 1);
        for (int n = 0; n <= 7; n++) {
            CHECKS.due("learns(0, " + n + ")", x.learns(0, n), n);
            CHECKS.due("learns(1, " + n + ")", x.learns(1, n), 0);
        }
        // The TRIP decides: without the LOO RIDER 1 is HAD too.
        x.set(1, 1, 0);
        CHECKS.due("week(1)", x.week(1), 600);
        CHECKS.due("often(1)", x.often(1), 5);
    }

    private static void freeRides() {
        CoachAhead x = Checks.of("train coaches 2 minutes 2 every 1 fare 0 fine 7; inspector at 0 up pace 1;"
            + "rider in 0 stay sees 0 looks 0; day 3 odds 100; day 0 odds 100;");
        CHECKS.due("dodges(0, 1)", x.dodges(0, 1), 0);
        CHECKS.due("fine(0, 1)", x.fine(0, 1), 0);
        CHECKS.due("often(0)", x.often(0), 0);
        CHECKS.due("week(0)", x.week(0), 0);
        CHECKS.due("learns(0, 2)", x.learns(0, 2), 7);
        mean(x, 0, 2, 1);
    }

    private static void dearRides() {
        CoachAhead x = Checks.of("train coaches 2 minutes 2 every 1 fare 99 fine 98; inspector at 0 up pace 1;"
            + "rider in 0 stay sees 0 looks 0; day 3 odds 100; day 0 odds 1; day 1 odds 7;");
        CHECKS.due("dodges(0, 3)", x.dodges(0, 3), 1);
        CHECKS.due("fine(0, 0)", x.fine(0, 0), 9900);
        CHECKS.due("fine(0, 1)", x.fine(0, 1), 1415);
        CHECKS.due("fine(0, 3)", x.fine(0, 3), 99);
        CHECKS.due("often(0)", x.often(0), -1);
        CHECKS.due("week(0)", x.week(0), 98 * 108);
        CHECKS.due("learns(0, 7)", x.learns(0, 7), 0);
        mean(x, 0, 378, 25);
        x = Checks.of("train coaches 2 minutes 2 every 1 fare 99 fine 99; inspector at 0 up pace 1;"
            + "rider in 0 stay sees 0 looks 0;");
        CHECKS.due("often(0)", x.often(0), 100);
        CHECKS.due("learns(0, 7)", x.learns(0, 7), 7);
        x = Checks.of("train coaches 2 minutes 2 every 1 fare 50 fine 0; inspector at 0 up pace 1;"
            + "rider in 0 stay sees 0 looks 0; day 0 odds 100;");
        CHECKS.due("often(0)", x.often(0), -1);
        CHECKS.due("week(0)", x.week(0), 0);
        CHECKS.due("fine(0, 0)", x.fine(0, 0), 50);
        // One hundredth below the fare.
        x = Checks.of("train coaches 2 minutes 2 every 1 fare 2 fine 199; inspector at 0 up pace 1;"
            + "rider in 0 stay sees 0 looks 0; day 0 odds 1; day 1 odds 2;");
        CHECKS.due("dodges(0, 0)", x.dodges(0, 0), 1);
        CHECKS.due("dodges(0, 1)", x.dodges(0, 1), 0);
        CHECKS.due("often(0)", x.often(0), 2);
        CHECKS.due("week(0)", x.week(0), 399);
    }

    private static void wrongInputs() {
        int[] wrong = {-1, 8, 99, Integer.MIN_VALUE, Integer.MAX_VALUE};
        CoachAhead x = Checks.of(Trains.FOUR);
        for (int w : wrong) {
            CHECKS.due("ask", x.ask(w), -2);
            CHECKS.due("found", x.found(w), -2);
            CHECKS.due("dodges", x.dodges(w, 0), -2);
            CHECKS.due("dodges", x.dodges(0, w), -2);
            CHECKS.due("week", x.week(w), -2);
            CHECKS.due("fine", x.fine(w, 0), -2);
            CHECKS.due("fine", x.fine(0, w), -2);
            CHECKS.due("often", x.often(w), -2);
            CHECKS.due("mean", x.mean(w, 0), -2);
            CHECKS.due("mean", x.mean(0, w), -2);
            CHECKS.due("learns", x.learns(w, 0), -2);
            CHECKS.due("learns", x.learns(0, w), -2);
        }
        CHECKS.due("dodges(0, 7)", x.dodges(0, 7), -2);
        CHECKS.due("fine(0, 7)", x.fine(0, 7), -2);
        CHECKS.due("mean(0, 2)", x.mean(0, 2), -2);
        CHECKS.due("week(4)", x.week(4), -2);
        x = new CoachAhead();
        CHECKS.due("ask(0)", x.ask(0), -2);
        CHECKS.due("found(0)", x.found(0), -2);
        CHECKS.due("asks()", x.asks(), -2);
        CHECKS.due("dodges(0, 0)", x.dodges(0, 0), -2);
        CHECKS.due("learns(0, 0)", x.learns(0, 0), -2);
    }
}
