import java.math.BigInteger;

/** The edges of Term VI and of promises 57 and 58: seeds, draws, who draws when. */
public final class EdgeDrawTest {
    private static final Checks CHECKS = new Checks();
    private static final int LAST_SEED = 2000000000;

    public static void main(String[] args) {
        seedsAtTheirBounds();
        drawsAtTheirBounds();
        tripsFromOneToTwenty();
        seedsBeyondTheLast();
        sixRidersThreeInspectors();
        inTheMinuteItComes();
        inTheLastMinute();
        whoComesLaterIsNot();
        twiceInATrip();
        knocksOfNoughtDrawNothing();
        outsideAsByTheTrip();
        CHECKS.close("EdgeDrawTest");
    }

    /** Draw number i (from 0) from a seed, told by whole numbers of any size. */
    private static int draw(long seed, int i) {
        BigInteger x = BigInteger.valueOf(seed);
        for (int k = 0; k <= i; k++) {
            x = x.multiply(BigInteger.valueOf(1103515245)).add(BigInteger.valueOf(12345))
                .mod(BigInteger.valueOf(2147483648L));
        }
        return x.divide(BigInteger.valueOf(65536)).mod(BigInteger.valueOf(100)).intValue();
    }

    /** He is in the LOO when it comes in MINUTE 1. */
    private static CoachAhead hiding(int knocks) {
        return Checks.of("train coaches 2 minutes 4 every 9 fare 0 fine 0; coach 1 people 2 loo;"
            + "inspector at 0 up pace 1 knocks " + knocks + "; rider in 1 loo sees 1 looks 0;");
    }

    private static void seedsAtTheirBounds() {
        int[] seeds = {0, 1, 2, 65535, 65536, 1000000000, LAST_SEED - 1, LAST_SEED};
        for (int seed : seeds) {
            int draw = draw(seed, 0);
            CHECKS.due("drawn(" + seed + ", 0), draw as knocks", hiding(draw).drawn(seed, 0), -1);
            CHECKS.due("drawn(" + seed + ", 0), draw below knocks", hiding(draw + 1).drawn(seed, 0), 1);
            CHECKS.due("trips(" + seed + ", 1, 0)", hiding(draw + 1).trips(seed, 1, 0), 1);
            CHECKS.due("trips(" + seed + ", 1, 0)", hiding(draw).trips(seed, 1, 0), 0);
        }
        CoachAhead x = hiding(100);
        int[] wrong = {-1, LAST_SEED + 1, Integer.MIN_VALUE, Integer.MAX_VALUE};
        for (int seed : wrong) {
            CHECKS.due("drawn(" + seed + ", 0)", x.drawn(seed, 0), -2);
            CHECKS.due("trips(" + seed + ", 1, 0)", x.trips(seed, 1, 0), -2);
        }
        int[] riders = {-1, 1, 6, Integer.MIN_VALUE, Integer.MAX_VALUE};
        for (int rider : riders) {
            CHECKS.due("drawn(0, " + rider + ")", x.drawn(0, rider), -2);
            CHECKS.due("trips(0, 1, " + rider + ")", x.trips(0, 1, rider), -2);
        }
    }

    private static void drawsAtTheirBounds() {
        // A draw of 0 is below knocks 1; one of 99 is below knocks 100 alone.
        CHECKS.due("draw of seed 0", draw(0, 0), 0);
        CHECKS.due("drawn(0, 0)", hiding(1).drawn(0, 0), 1);
        int seed = 0;
        for (int s = 0; s < 1000 && draw(seed, 0) != 99; s++) {
            seed = s;
        }
        CHECKS.due("draw of seed " + seed, draw(seed, 0), 99);
        CHECKS.due("drawn(" + seed + ", 0)", hiding(99).drawn(seed, 0), -1);
        CHECKS.due("drawn(" + seed + ", 0)", hiding(100).drawn(seed, 0), 1);
        CHECKS.due("drawn(0, 0) without knocks", hiding(0).drawn(0, 0), -1);
    }

    private static void tripsFromOneToTwenty() {
        int below = 0;
        for (int n = 1; n <= 20; n++) {
            below += draw(40 + n - 1, 0) < 50 ? 1 : 0;
            CHECKS.due("trips(40, " + n + ", 0)", hiding(50).trips(40, n, 0), below);
            CHECKS.due("trips(40, " + n + ", 0)", hiding(100).trips(40, n, 0), n);
            CHECKS.due("trips(40, " + n + ", 0)", hiding(0).trips(40, n, 0), 0);
        }
        int[] wrong = {0, 21, -1, Integer.MIN_VALUE, Integer.MAX_VALUE};
        for (int n : wrong) {
            CHECKS.due("trips(40, " + n + ", 0)", hiding(50).trips(40, n, 0), -2);
        }
    }

    private static void seedsBeyondTheLast() {
        // The seed is within its bounds; those that come behind it are the seed and 1, .. .
        int below = 0;
        for (int i = 0; i < 20; i++) {
            below += draw(LAST_SEED + (long) i, 0) < 50 ? 1 : 0;
        }
        CHECKS.due("trips(2000000000, 20, 0)", hiding(50).trips(LAST_SEED, 20, 0), below);
    }

    private static void sixRidersThreeInspectors() {
        int[] knocks = {5, 30, 10};
        StringBuilder text = new StringBuilder("train coaches 2 minutes 4 every 9 fare 0 fine 0; coach 1 people 99 loo;");
        for (int k : knocks) {
            text.append("inspector at 0 up pace 1 knocks ").append(k).append(";");
        }
        for (int r = 0; r < 6; r++) {
            text.append("rider in 1 loo sees 1 looks 0;");
        }
        CoachAhead x = Checks.of(text.toString());
        for (int seed = 0; seed < 40; seed++) {
            for (int r = 0; r < 6; r++) {
                boolean had = false;
                for (int i = 0; i < 3; i++) {
                    had |= draw(seed, 3 * r + i) < knocks[i];
                }
                CHECKS.due("drawn(" + seed + ", " + r + ")", x.drawn(seed, r), had ? 1 : -1);
            }
        }
    }

    private static void inTheMinuteItComes() {
        // It stays in 1 to the END; by seed 1 the draws are 38, 58, 13: the first alone counts.
        CHECKS.due("draw 0 of seed 1", draw(1, 0), 38);
        CHECKS.due("draw 2 of seed 1", draw(1, 2), 13);
        CoachAhead x = Checks.of("train coaches 2 minutes 40 every 9 fare 0 fine 0; coach 1 people 99 loo;"
            + "inspector at 0 up pace 1 knocks 38; rider in 1 loo sees 1 looks 0;");
        CHECKS.due("where(0, 39)", x.where(0, 39), 11);
        CHECKS.due("drawn(1, 0)", x.drawn(1, 0), -1);
        CHECKS.due("had(0)", x.had(0), 1);
        // He goes into the LOO in the MINUTE in which it comes: it draws.
        x = Checks.of("train coaches 3 minutes 5 every 9 fare 0 fine 0; coach 1 people 3 loo; coach 0 people 1;"
            + "inspector at 0 up pace 1 knocks 39; rider in 1 loo sees 1 looks 0;");
        CHECKS.due("drawn(1, 0)", x.drawn(1, 0), 2);
    }

    private static void inTheLastMinute() {
        String train = "train coaches 2 minutes %d every 9 fare 0 fine 0; coach 0 people 37; coach 1 people 0 loo;"
            + "inspector at 0 up pace 1 knocks 100; rider in 1 loo sees 1 looks 0;";
        CHECKS.due("drawn(7, 0)", Checks.of(String.format(train, 39)).drawn(7, 0), 38);
        CHECKS.due("drawn(7, 0)", Checks.of(String.format(train, 38)).drawn(7, 0), -1);
        CHECKS.due("drawn(7, 0)", Checks.of(String.format(train, 40)).drawn(7, 0), 38);
        // One MINUTE: nobody is in a LOO in it.
        CHECKS.due("drawn(7, 0)", Checks.of(String.format(train, 1)).drawn(7, 0), -1);
    }

    private static void whoComesLaterIsNot() {
        // It is in 0 from MINUTE 0 on, he sees it in 0 and is HAD at once; the one of COACH 1 sees it too late.
        String train = "train coaches 2 minutes 9 every 9 fare 0 fine 0; coach 0 people 2 loo; coach 1 people 2 loo;"
            + "inspector at 0 up pace 1 knocks 100;";
        CoachAhead x = Checks.of(train + "rider in 0 loo sees 0 looks 0; rider in 1 loo sees 0 looks 0;"
            + "rider in 1 loo sees 1 looks 0;");
        CHECKS.due("where(0, 1)", x.where(0, 1), 10);
        CHECKS.due("drawn(3, 0)", x.drawn(3, 0), 0);
        CHECKS.due("where(1, 4)", x.where(1, 4), 11);
        CHECKS.due("drawn(3, 1)", x.drawn(3, 1), 3);
        CHECKS.due("drawn(3, 2)", x.drawn(3, 2), 3);
        // Who comes into the LOO where it is already takes no draw: RIDER 1 has the first of all, 38 by seed 1.
        x = Checks.of("train coaches 3 minutes 9 every 9 fare 0 fine 0; coach 0 people 9 loo; coach 2 people 0 loo;"
            + "inspector at 0 up pace 1 knocks 50; inspector at 1 up pace 1 knocks 39;"
            + "rider in 0 loo sees 0 looks 0; rider in 2 loo sees 1 looks 0;");
        CHECKS.due("where(0, 1)", x.where(0, 1), 10);
        CHECKS.due("where(1, 1)", x.where(1, 1), 12);
        CHECKS.due("drawn(1, 1)", x.drawn(1, 1), 1);
    }

    private static void twiceInATrip() {
        // It comes in 1 and again in 3, 5, ..: by seed 1 the draws are 38, 58, 13, ..
        String train = "train coaches 2 minutes %d every 9 fare 0 fine 0; coach 1 people 0 loo;"
            + "inspector at 0 up pace 1 knocks %d turns; rider in 1 loo sees 1 looks 0;";
        CHECKS.due("drawn(1, 0)", Checks.of(String.format(train, 6, 14)).drawn(1, 0), 5);
        CHECKS.due("drawn(1, 0)", Checks.of(String.format(train, 5, 14)).drawn(1, 0), -1);
        CHECKS.due("drawn(1, 0)", Checks.of(String.format(train, 6, 13)).drawn(1, 0), -1);
        CHECKS.due("drawn(1, 0)", Checks.of(String.format(train, 6, 39)).drawn(1, 0), 1);
    }

    private static void knocksOfNoughtDrawNothing() {
        // By seed 1: 38 for the one that knocks, whichever number it has.
        String train = "train coaches 2 minutes 4 every 9 fare 0 fine 0; coach 1 people 9 loo;";
        String quiet = "inspector at 0 up pace 1 knocks 0;";
        String loud = "inspector at 0 up pace 1 knocks 39;";
        String rider = "rider in 1 loo sees 1 looks 0;";
        CHECKS.due("drawn(1, 0)", Checks.of(train + quiet + loud + rider).drawn(1, 0), 1);
        CHECKS.due("drawn(1, 0)", Checks.of(train + loud + quiet + rider).drawn(1, 0), 1);
        CHECKS.due("drawn(1, 0)", Checks.of(train + quiet + quiet + rider).drawn(1, 0), -1);
        // The second RIDER has 58.
        CHECKS.due("drawn(1, 1)", Checks.of(train + quiet + loud + rider + rider).drawn(1, 1), -1);
    }

    private static void outsideAsByTheTrip() {
        CoachAhead x = Checks.of("train coaches 3 minutes 3 every 9 fare 0 fine 0; coach 1 people 9 loo;"
            + "inspector at 0 up pace 1; rider in 0 stay sees 0 looks 0; rider in 1 stay sees 0 looks 0;"
            + "rider in 2 stay sees 0 looks 0; rider in 1 loo sees 1 looks 0;");
        int[] due = {0, 1, -1, -1};
        for (int r = 0; r < 4; r++) {
            CHECKS.due("drawn(0, " + r + ")", x.drawn(0, r), due[r]);
            CHECKS.due("trips(0, 20, " + r + ")", x.trips(0, 20, r), due[r] < 0 ? 0 : 20);
        }
        CHECKS.due("drawn(0, 4)", x.drawn(0, 4), -2);
        x = Checks.of("train coaches 2 minutes 3 every 9 fare 0 fine 0; rider in 0 stay sees 0 looks 0;");
        CHECKS.due("drawn(0, 0) without INSPECTORS", x.drawn(0, 0), -1);
        CHECKS.due("trips(0, 20, 0) without INSPECTORS", x.trips(0, 20, 0), 0);
    }
}
