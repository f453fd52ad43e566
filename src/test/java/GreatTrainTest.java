import java.util.List;
import java.util.Random;

/**
 * fewest() and begins() on long trains and trips, which the Oracle is too slow for: PLACES in which one can be
 * are carried on from MINUTE to MINUTE, for each row of BEGINS, the least first.
 */
public final class GreatTrainTest {
    private static final Checks CHECKS = new Checks();
    private static final int[] SEEN = new int[4];

    public static void main(String[] args) {
        for (int seed = 0; seed < 120; seed++) {
            compare(seed, make(Checks.randomOf(5000 + seed)));
        }
        for (int size = 1; size < SEEN.length; size++) {
            CHECKS.holds("some trains take " + size + " INSPECTORS", SEEN[size] > 4);
        }
        CHECKS.holds("three do not have everybody on some trains", SEEN[0] > 4);
        CHECKS.close("GreatTrainTest");
    }

    private static Oracle make(Random random) {
        Oracle o = new Oracle();
        o.coaches = 5 + random.nextInt(4);
        o.minutes = 9 + random.nextInt(32);
        o.every = 1 + random.nextInt(20);
        int share = 1 + random.nextInt(6);
        for (int c = 0; c < o.coaches; c++) {
            o.people[c] = random.nextInt(1 + random.nextInt(40));
            o.loo[c] = random.nextInt(2 * share) == 0;
            o.doors[c] = random.nextInt(share) == 0;
        }
        o.inspectors.add(new Oracle.Inspector(0, true, 1 + random.nextInt(20), random.nextInt(3) * 50,
            random.nextInt(3) > 0));
        return o;
    }

    private static void compare(int seed, Oracle o) {
        CoachAhead x = Checks.of(o.text());
        List<Integer> row = leastRow(o);
        String about = "seed " + seed + ": ";
        SEEN[row.size()]++;
        CHECKS.due(about + "fewest()", x.fewest(), row.isEmpty() ? -1 : row.size());
        for (int i = 0; i < 4; i++) {
            CHECKS.due(about + "begins(" + i + ")", x.begins(i), i < row.size() ? row.get(i) : -1);
        }
    }

    private static List<Integer> leastRow(Oracle o) {
        int n = 2 * o.coaches;
        int[][] spots = new int[n][o.minutes];
        for (int b = 0; b < n; b++) {
            for (int m = 0; m < o.minutes; m++) {
                spots[b][m] = o.at(o.begun(b), m);
            }
        }
        for (int a = 0; a < n; a++) {
            if (haveAll(o, spots[a])) {
                return List.of(a);
            }
        }
        for (int a = 0; a < n; a++) {
            for (int b = a; b < n; b++) {
                if (haveAll(o, spots[a], spots[b])) {
                    return List.of(a, b);
                }
            }
        }
        for (int a = 0; a < n; a++) {
            for (int b = a; b < n; b++) {
                for (int c = b; c < n; c++) {
                    if (haveAll(o, spots[a], spots[b], spots[c])) {
                        return List.of(a, b, c);
                    }
                }
            }
        }
        return List.of();
    }

    private static boolean haveAll(Oracle o, int[]... ways) {
        boolean[] seats = new boolean[o.coaches];
        boolean[] cabins = new boolean[o.coaches];
        for (int c = 0; c < o.coaches; c++) {
            seats[c] = !isAt(ways, c, 0);
        }
        for (int m = 0; m + 1 < o.minutes; m++) {
            boolean[] nextSeats = new boolean[o.coaches];
            boolean[] nextCabins = new boolean[o.coaches];
            for (int c = 0; c < o.coaches; c++) {
                for (int d = 0; d < o.coaches; d++) {
                    boolean walks = Math.abs(c - d) == 1 && !meets(ways, c, d, m);
                    boolean rides = o.isStop(m) && o.doors[c] && o.doors[d];
                    nextSeats[d] |= (seats[c] || cabins[c]) && (c == d || walks) || seats[c] && rides;
                }
                nextCabins[c] = o.loo[c] && (seats[c] || cabins[c]);
            }
            for (int c = 0; c < o.coaches; c++) {
                boolean watched = isAt(ways, c, m + 1);
                seats[c] = nextSeats[c] && !watched;
                cabins[c] = nextCabins[c] && !(watched && o.inspectors.get(0).knocks() > 0);
            }
        }
        for (int c = 0; c < o.coaches; c++) {
            if (seats[c] || cabins[c]) {
                return false;
            }
        }
        return true;
    }

    private static boolean isAt(int[][] ways, int coach, int minute) {
        for (int[] way : ways) {
            if (way[minute] == coach) {
                return true;
            }
        }
        return false;
    }

    private static boolean meets(int[][] ways, int from, int to, int minute) {
        for (int[] way : ways) {
            if (way[minute] == to && way[minute + 1] == from) {
                return true;
            }
        }
        return false;
    }
}
