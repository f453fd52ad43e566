/** Promises 57 and 58: trips drawn. From seed 0 the DRAWS are 0, 68, 88, 17, 98, ..; from 1: 38, 58, 13, .. . */
public final class DrawTest {
    private static final Checks CHECKS = new Checks();

    public static void main(String[] args) {
        oneKnock();
        manySeeds();
        severalKnocks();
        ridersInTheirOrder();
        whoComesLater();
        outsideTheLoo();
        wrongInputs();
        CHECKS.close("DrawTest");
    }

    private static CoachAhead hiding(int knocks) {
        return Checks.of("train coaches 2 minutes 4 every 9 fare 0 fine 0; coach 1 people 2 loo;"
            + "inspector at 0 up pace 1 knocks " + knocks + "; rider in 1 loo sees 1 looks 0;");
    }

    private static void oneKnock() {
        CHECKS.due("drawn(0, 0)", hiding(1).drawn(0, 0), 1);
        CHECKS.due("drawn(1, 0)", hiding(38).drawn(1, 0), -1);
        CHECKS.due("drawn(1, 0)", hiding(39).drawn(1, 0), 1);
        CHECKS.due("drawn(0, 0)", hiding(0).drawn(0, 0), -1);
        CHECKS.due("drawn(7, 0)", hiding(100).drawn(7, 0), 1);
        CHECKS.due("trips(0, 2, 0)", hiding(38).trips(0, 2, 0), 1);
        CHECKS.due("trips(0, 2, 0)", hiding(39).trips(0, 2, 0), 2);
        CHECKS.due("trips(1, 1, 0)", hiding(38).trips(1, 1, 0), 0);
        CHECKS.due("trips(2000000000, 20, 0)", hiding(100).trips(2000000000, 20, 0), 20);
        CHECKS.due("trips(5, 20, 0)", hiding(0).trips(5, 20, 0), 0);
    }

    private static void manySeeds() {
        java.util.Random random = new java.util.Random(5);
        for (int i = 0; i < 300; i++) {
            int seed = i < 20 ? 2000000000 - i : random.nextInt(2000000001);
            int draw = java.math.BigInteger.valueOf(1103515245).multiply(java.math.BigInteger.valueOf(seed))
                .add(java.math.BigInteger.valueOf(12345)).mod(java.math.BigInteger.ONE.shiftLeft(31))
                .shiftRight(16).mod(java.math.BigInteger.valueOf(100)).intValue();
            CHECKS.due("drawn(" + seed + ", 0) by " + draw, hiding(draw).drawn(seed, 0), -1);
            CHECKS.due("drawn(" + seed + ", 0) above " + draw, hiding(draw + 1).drawn(seed, 0), 1);
        }
    }

    private static void severalKnocks() {
        // It turns: in 1 in the MINUTES 1, 2, 4, 5, .. ; it comes to 1 in 1, 4, 7; the DRAWS are 38, 58, 13.
        CoachAhead x = Checks.of("train coaches 2 minutes 9 every 9 fare 0 fine 0; coach 1 people 1 loo;"
            + "inspector at 0 up pace 1 knocks 20 turns; rider in 1 loo sees 1 looks 0;");
        CHECKS.due("at(0, 4)", x.at(0, 4), 1);
        CHECKS.due("at(0, 7)", x.at(0, 7), 1);
        CHECKS.due("where(0, 7)", x.where(0, 7), 11);
        CHECKS.due("drawn(1, 0)", x.drawn(1, 0), 7);
        CHECKS.due("drawn(0, 0)", x.drawn(0, 0), 1);
        CHECKS.due("had(0) by the TRIP", x.had(0), 1);
    }

    private static void ridersInTheirOrder() {
        String text = "train coaches 2 minutes 4 every 9 fare 0 fine 0; coach 1 people 2 loo;";
        String inspector = "inspector at 0 up pace 1 knocks 20;";
        String rider = "rider in 1 loo sees 1 looks 0;";
        // RIDERS first: 0; then 68; then 88; then 17.
        CoachAhead x = Checks.of(text + inspector + rider.repeat(4));
        int[] due = {1, -1, -1, 1};
        for (int r = 0; r < 4; r++) {
            CHECKS.due("drawn(0, " + r + ")", x.drawn(0, r), due[r]);
        }
        // Two INSPECTORS come at once: RIDER 0 takes 0 and 68, RIDER 1 takes 88 and 17.
        x = Checks.of(text + inspector + inspector + rider.repeat(2));
        CHECKS.due("drawn(0, 0)", x.drawn(0, 0), 1);
        CHECKS.due("drawn(0, 1)", x.drawn(0, 1), 1);
        // One that does not knock takes no draw: RIDER 1 has 68 alone.
        x = Checks.of(text + "inspector at 0 up pace 1;" + inspector + rider.repeat(2));
        CHECKS.due("drawn(0, 1)", x.drawn(0, 1), -1);
        // Who is not in the LOO takes none: RIDER 1 has the first.
        x = Checks.of(text + inspector + "rider in 1 stay sees 1 looks 0;" + rider);
        CHECKS.due("drawn(0, 0)", x.drawn(0, 0), 1);
        CHECKS.due("drawn(0, 1)", x.drawn(0, 1), 1);
        // Who is HAD already takes draws on: RIDER 0 is had in 1, and knocked at again in 4 (88), then RIDER 1 (17).
        x = Checks.of("train coaches 2 minutes 9 every 9 fare 0 fine 0; coach 1 people 1 loo;"
            + "inspector at 0 up pace 1 knocks 20 turns;" + rider.repeat(2));
        CHECKS.due("drawn(0, 0)", x.drawn(0, 0), 1);
        CHECKS.due("drawn(0, 1)", x.drawn(0, 1), 4);
    }

    private static void whoComesLater() {
        // RIDER 0 goes into the LOO when it is there already: no draw; so RIDER 1, to whom it comes, has the first.
        CoachAhead x = Checks.of("train coaches 2 minutes 6 every 9 fare 0 fine 0; coach 0 people 1 loo;"
            + "coach 1 people 0 loo; inspector at 0 up pace 1 knocks 20; rider in 0 loo sees 0 looks 0;"
            + "rider in 1 loo sees 1 looks 0;");
        CHECKS.due("where(0, 1)", x.where(0, 1), 10);
        CHECKS.due("drawn(0, 0)", x.drawn(0, 0), 0);
        CHECKS.due("drawn(0, 1)", x.drawn(0, 1), 2);
        CHECKS.due("drawn(1, 1)", x.drawn(1, 1), -1);
    }

    private static void outsideTheLoo() {
        CoachAhead x = Checks.of(Trains.FOUR);
        for (int r = 0; r < 4; r++) {
            CHECKS.due("drawn(5, " + r + ")", x.drawn(5, r), x.had(r));
            CHECKS.due("trips(5, 3, " + r + ")", x.trips(5, 3, r), x.had(r) == -1 ? 0 : 3);
        }
        // Had on the way, as by the TRIP.
        x = Checks.of("train coaches 4 minutes 4 every 9 fare 5 fine 9; inspector at 0 up pace 1;"
            + "inspector at 2 down pace 1; rider in 1 forward sees 1 looks 0;");
        CHECKS.due("drawn(0, 0)", x.drawn(0, 0), 1);
    }

    private static void wrongInputs() {
        CoachAhead x = hiding(50);
        CHECKS.due("drawn(-1, 0)", x.drawn(-1, 0), -2);
        CHECKS.due("drawn(2000000001, 0)", x.drawn(2000000001, 0), -2);
        CHECKS.due("drawn(0, 1)", x.drawn(0, 1), -2);
        CHECKS.due("drawn(0, -1)", x.drawn(0, -1), -2);
        CHECKS.holds("drawn(2000000000, 0)", x.drawn(2000000000, 0) != -2);
        CHECKS.due("trips(-1, 1, 0)", x.trips(-1, 1, 0), -2);
        CHECKS.due("trips(2000000001, 1, 0)", x.trips(2000000001, 1, 0), -2);
        CHECKS.due("trips(0, 0, 0)", x.trips(0, 0, 0), -2);
        CHECKS.due("trips(0, 21, 0)", x.trips(0, 21, 0), -2);
        CHECKS.due("trips(0, -1, 0)", x.trips(0, -1, 0), -2);
        CHECKS.due("trips(0, 1, 1)", x.trips(0, 1, 1), -2);
        x = new CoachAhead();
        CHECKS.due("drawn(0, 0)", x.drawn(0, 0), -2);
        CHECKS.due("trips(0, 1, 0)", x.trips(0, 1, 0), -2);
    }
}
