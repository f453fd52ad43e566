import java.util.ArrayList;
import java.util.HashMap;
import java.util.List;
import java.util.Random;
import java.util.TreeMap;

/** Trains made at random, from fixed seeds: each answer of the class against the Oracle's. */
public final class OracleTest {
    private static final Checks CHECKS = new Checks();
    private static String about = "";

    private static void due(String call, long got, long want) {
        CHECKS.due(about + call, got, want);
    }

    public static void main(String[] args) {
        for (int seed = 0; seed < 400; seed++) {
            Random random = Checks.randomOf(seed);
            Oracle o = make(random);
            about = "seed " + seed + ": ";
            CoachAhead x = Checks.of(o.text());
            compareAll(x, o, random);
            changeSome(x, o, random);
        }
        for (int seed = 2000; seed < 2150; seed++) {
            Random random = Checks.randomOf(seed);
            Oracle o = makeAtBounds(random);
            about = "seed " + seed + ": ";
            CoachAhead x = Checks.of(o.text());
            compareAll(x, o, random);
        }
        CHECKS.close("OracleTest");
    }

    static Oracle make(Random random) {
        Oracle o = new Oracle();
        o.coaches = 2 + random.nextInt(random.nextInt(4) == 0 ? 7 : 4);
        o.minutes = 1 + random.nextInt(random.nextInt(4) == 0 ? 40 : 12);
        o.every = 1 + random.nextInt(6);
        o.fare = random.nextInt(6) == 0 ? 0 : random.nextInt(100);
        o.fine = random.nextInt(1000);
        for (int c = 0; c < o.coaches; c++) {
            o.people[c] = random.nextInt(3) == 0 ? random.nextInt(100) : random.nextInt(12);
            o.loo[c] = random.nextInt(4) == 0;
            o.doors[c] = random.nextInt(2) == 0;
        }
        int inspectors = random.nextInt(4);
        for (int i = 0; i < inspectors; i++) {
            o.inspectors.add(new Oracle.Inspector(random.nextInt(o.coaches), random.nextBoolean(),
                1 + random.nextInt(20), random.nextBoolean() ? 0 : 1 + random.nextInt(100), random.nextBoolean()));
        }
        int riders = random.nextInt(7);
        for (int r = 0; r < riders; r++) {
            o.riders.add(new Oracle.Rider(random.nextInt(o.coaches), random.nextInt(4), random.nextInt(8),
                random.nextInt(4) * 30, random.nextBoolean()));
        }
        for (int d = 0; d < 7; d++) {
            o.odds[d] = random.nextBoolean() ? 0 : random.nextInt(101);
        }
        return o;
    }

    /** A TRAIN whose numbers are all at their bounds, or beside them. */
    static Oracle makeAtBounds(Random random) {
        Oracle o = new Oracle();
        o.coaches = atBounds(random, 2, 8);
        o.minutes = atBounds(random, 1, 40);
        o.every = atBounds(random, 1, 20);
        o.fare = atBounds(random, 0, 99);
        o.fine = atBounds(random, 0, 999);
        for (int c = 0; c < o.coaches; c++) {
            o.people[c] = random.nextBoolean() ? atBounds(random, 0, 99) : random.nextInt(4);
            o.loo[c] = random.nextInt(3) == 0;
            o.doors[c] = random.nextBoolean();
        }
        int inspectors = random.nextInt(4) == 0 ? 0 : 1 + random.nextInt(3);
        for (int i = 0; i < inspectors; i++) {
            o.inspectors.add(new Oracle.Inspector(atBounds(random, 0, o.coaches - 1), random.nextBoolean(),
                atBounds(random, 1, 20), atBounds(random, 0, 100), random.nextBoolean()));
        }
        int riders = random.nextInt(4) == 0 ? 0 : 6;
        for (int r = 0; r < riders; r++) {
            o.riders.add(new Oracle.Rider(atBounds(random, 0, o.coaches - 1), random.nextInt(4), atBounds(random, 0, 7),
                atBounds(random, 0, 100), random.nextBoolean()));
        }
        for (int d = 0; d < 7; d++) {
            o.odds[d] = atBounds(random, 0, 100);
        }
        return o;
    }

    private static int atBounds(Random random, int least, int most) {
        int inner = random.nextInt(3) == 0 && most > least ? 1 : 0;
        return random.nextBoolean() ? least + inner : most - inner;
    }

    private static void compareAll(CoachAhead x, Oracle o, Random random) {
        compareCourses(x, o);
        compareTrips(x, o);
        compareUncaught(x, o);
        if (!o.inspectors.isEmpty()) {
            compareBegins(x, o);
            compareTables(x, o);
            compareSightings(x, o, random);
        }
        compareAsked(x, o);
        compareMoney(x, o);
        compareMarks(x, o, random);
        compareDrawn(x, o, random);
    }

    private static void compareCourses(CoachAhead x, Oracle o) {
        int ever = 0;
        for (int m = 0; m < o.minutes; m++) {
            due("stop(" + m + ")", x.stop(m), o.isStop(m) ? 1 : 0);
            due("watched(" + m + ")", x.watched(m), o.watched(m));
            ever |= o.watched(m);
        }
        due("never()", x.never(), (1 << o.coaches) - 1 & ~ever);
        for (int i = 0; i < o.inspectors.size(); i++) {
            int[] first = new int[o.coaches];
            java.util.Arrays.fill(first, -1);
            for (int m = o.minutes - 1; m >= 0; m--) {
                int spot = o.at(o.inspectors.get(i), m);
                due("at(" + i + ", " + m + ")", x.at(i, m), spot);
                if (spot >= 0) {
                    first[spot] = m;
                }
            }
            for (int c = 0; c < o.coaches; c++) {
                due("comes(" + i + ", " + c + ")", x.comes(i, c), first[c]);
                due("stays(" + i + ", " + c + ")", x.stays(i, c), 1 + o.people[c] / o.inspectors.get(i).pace());
            }
        }
    }

    private static void compareTrips(CoachAhead x, Oracle o) {
        int fined = 0;
        int brings = 0;
        for (int r = 0; r < o.riders.size(); r++) {
            Oracle.Rider rider = o.riders.get(r);
            List<Oracle.Place> places = o.ride(rider);
            for (int m = 0; m < o.minutes; m++) {
                int where = places.get(m).coach() + (places.get(m).loo() ? 10 : 0);
                due("where(" + r + ", " + m + ")", x.where(r, m), where);
            }
            int[] had = o.had(rider);
            due("had(" + r + ")", x.had(r), had[0]);
            due("by(" + r + ")", x.by(r), had[1]);
            due("walks(" + r + ")", x.walks(r), o.walks(rider));
            if (rider.ticket()) {
                brings += o.fare;
            } else if (had[0] >= 0) {
                brings += o.fine;
                fined |= 1 << r;
            }
        }
        due("fined()", x.fined(), fined);
        due("brings()", x.brings(), brings);
    }

    private static void compareUncaught(CoachAhead x, Oracle o) {
        HashMap<Oracle.State, Integer> known = new HashMap<>();
        HashMap<Oracle.State, Integer> longest = new HashMap<>();
        due("safe()", x.safe(), o.safe());
        for (int c = 0; c < o.coaches; c++) {
            Oracle.Place seat = new Oracle.Place(c, false);
            Oracle.Place cabin = new Oracle.Place(c, true);
            for (int m = 0; m < o.minutes; m++) {
                due("can(" + c + ", 0, " + m + ")", x.can(c, 0, m), o.effort(seat, m, known) < Oracle.GREAT ? 1 : 0);
                int cabinDue = !o.loo[c] ? -2 : o.effort(cabin, m, known) < Oracle.GREAT ? 1 : 0;
                due("can(" + c + ", 1, " + m + ")", x.can(c, 1, m), cabinDue);
            }
            int effort = o.effort(seat, 0, known);
            due("effort(" + c + ")", x.effort(c), effort < Oracle.GREAT ? effort : -1);
            due("lasts(" + c + ")", x.lasts(c), o.lasts(seat, 0, longest));
            List<Integer> path = o.path(c);
            for (int i = -1; i <= o.minutes; i++) {
                due("path(" + c + ", " + i + ")", x.path(c, i), i >= 0 && i < path.size() ? path.get(i) : -1);
            }
        }
        for (int m = 0; m < o.minutes; m++) {
            due("room(" + m + ")", x.room(m), o.room(m));
        }
    }

    private static void compareBegins(CoachAhead x, Oracle o) {
        int best = 0;
        for (int b = 0; b < 2 * o.coaches; b++) {
            due("leaves(" + b + ")", x.leaves(b), o.leaves(b));
            if (o.leaves(b) < o.leaves(best)) {
                best = b;
            }
        }
        due("begin()", x.begin(), best);
        if (o.coaches * o.minutes > 40) {
            return;
        }
        List<Integer> row = o.fewest();
        due("fewest()", x.fewest(), row.isEmpty() ? -1 : row.size());
        for (int i = -1; i <= 3; i++) {
            due("begins(" + i + ")", x.begins(i), i >= 0 && i < row.size() ? row.get(i) : -1);
        }
    }

    private static void compareTables(CoachAhead x, Oracle o) {
        for (int r = 0; r < o.riders.size(); r++) {
            int n = 2 * o.coaches;
            int[][] table = new int[4][n];
            int[] most = new int[n];
            int[] least = {99, 99, 99, 99};
            for (int rule = 0; rule < 4; rule++) {
                for (int b = 0; b < n; b++) {
                    table[rule][b] = o.table(o.riders.get(r), rule, b);
                    due("table(" + r + ", " + rule + ", " + b + ")", x.table(r, rule, b), table[rule][b]);
                    most[b] = Math.max(most[b], table[rule][b]);
                    least[rule] = Math.min(least[rule], table[rule][b]);
                }
            }
            List<Integer> rests = new ArrayList<>();
            for (int rule = 0; rule < 4; rule++) {
                int answer = n;
                for (int b = n - 1; b >= 0; b--) {
                    answer = table[rule][b] == least[rule] ? b : answer;
                }
                due("answer(" + r + ", " + rule + ")", x.answer(r, rule), answer);
                for (int b = 0; b < n; b++) {
                    if (table[rule][b] == most[b] && table[rule][b] == least[rule]) {
                        rests.add(100 * rule + b);
                    }
                }
            }
            for (int b = 0; b < n; b++) {
                int reply = 3;
                for (int rule = 3; rule >= 0; rule--) {
                    reply = table[rule][b] == most[b] ? rule : reply;
                }
                due("reply(" + r + ", " + b + ")", x.reply(r, b), reply);
            }
            due("rests(" + r + ")", x.rests(r), rests.size());
            due("rest(" + r + ")", x.rest(r), rests.isEmpty() ? -1 : rests.get(0));
            int sure = Math.max(Math.max(least[0], least[1]), Math.max(least[2], least[3]));
            due("sure(" + r + ")", x.sure(r), sure);
        }
    }

    private static void compareSightings(CoachAhead x, Oracle o, Random random) {
        int pairs = random.nextInt(3);
        int[] row = new int[2 * pairs];
        int width = random.nextInt(4);
        due("row", x.row(2, width, row.length), 0);
        Oracle.Inspector truth = o.begun(random.nextInt(2 * o.coaches));
        for (int i = 0; i < row.length; i += 2) {
            row[i] = random.nextInt(o.minutes);
            int spot = o.at(truth, row[i]);
            row[i + 1] = spot < 0 || random.nextInt(6) == 0 ? random.nextInt(o.coaches) : spot;
            x.write(2, i, row[i]);
            x.write(2, i + 1, row[i + 1]);
        }
        List<Integer> left = new ArrayList<>();
        for (int b = 0; b < 2 * o.coaches; b++) {
            boolean fits = true;
            for (int i = 0; i < row.length; i += 2) {
                fits &= o.at(o.begun(b), row[i]) == row[i + 1];
            }
            if (fits) {
                left.add(b);
            }
        }
        due("sighted(2)", x.sighted(2), left.size());
        due("told(2)", x.told(2), left.isEmpty() ? -1 : left.get(0));
        int look = -1;
        int fewest = left.size();
        for (int m = 0; m < o.minutes; m++) {
            TreeMap<Integer, Integer> groups = new TreeMap<>();
            int bits = 0;
            for (int b : left) {
                int spot = o.at(o.begun(b), m);
                groups.merge(spot, 1, Integer::sum);
                bits |= spot < 0 ? 0 : 1 << spot;
            }
            due("may(2, " + m + ")", x.may(2, m), bits);
            int worst = groups.values().stream().mapToInt(n -> n).max().orElse(0);
            if (worst < fewest) {
                fewest = worst;
                look = m;
            }
        }
        due("look(2)", x.look(2), look);
    }

    private static void compareAsked(CoachAhead x, Oracle o) {
        List<Integer> order = o.asked();
        int bits = 0;
        int found = 0;
        int asks = 0;
        for (int n = 0; n <= 6; n++) {
            if (n > 0 && n <= order.size()) {
                int r = order.get(n - 1);
                bits |= 1 << r;
                if (!o.riders.get(r).ticket()) {
                    found++;
                    asks = n;
                }
            }
            due("ask(" + n + ")", x.ask(n), bits);
            due("found(" + n + ")", x.found(n), found);
        }
        due("asks()", x.asks(), asks);
    }

    private static void compareMoney(CoachAhead x, Oracle o) {
        for (int r = 0; r < o.riders.size(); r++) {
            int had = o.had(o.riders.get(r))[0] >= 0 ? 1 : 0;
            int week = 0;
            int all = 0;
            for (int d = 0; d < 7; d++) {
                int risk = had * o.fine * o.odds[d];
                all += risk;
                week += Math.min(risk, 100 * o.fare);
                due("dodges(" + r + ", " + d + ")", x.dodges(r, d), risk < 100 * o.fare ? 1 : 0);
                int weight = had * o.odds[d];
                int fine = o.fare == 0 ? 0 : weight == 0 ? -1 : (100 * o.fare + weight - 1) / weight;
                due("fine(" + r + ", " + d + ")", x.fine(r, d), fine);
            }
            due("week(" + r + ")", x.week(r), week);
            int weight = had * o.fine;
            int often = o.fare == 0 ? 0 : weight == 0 ? -1 : (100 * o.fare + weight - 1) / weight;
            due("often(" + r + ")", x.often(r), often > 100 ? -1 : often);
            int above = x.mean(r, 0);
            int below = x.mean(r, 1);
            due("mean(" + r + ") as a value", 700L * above, (long) all * below);
            due("mean(" + r + ") in lowest terms", java.math.BigInteger.valueOf(above)
                .gcd(java.math.BigInteger.valueOf(below)).intValue(), 1);
            for (int n = 0; n <= 7; n++) {
                int pays = (had * o.fine >= o.fare ? n : 0) + (o.fare == 0 ? 7 - n : 0);
                due("learns(" + r + ", " + n + ")", x.learns(r, n), pays);
            }
        }
    }

    private static void compareMarks(CoachAhead x, Oracle o, Random random) {
        int safe = Integer.bitCount(o.safe());
        int doorBits = 0;
        int looBits = 0;
        int best = -1;
        int most = safe;
        for (int c = 0; c < o.coaches; c++) {
            Oracle less = o.copy();
            less.doors[c] = false;
            doorBits |= Integer.bitCount(less.safe()) < safe ? 1 << c : 0;
            less = o.copy();
            less.loo[c] = false;
            looBits |= Integer.bitCount(less.safe()) < safe ? 1 << c : 0;
            Oracle more = o.copy();
            more.loo[c] = true;
            if (Integer.bitCount(more.safe()) > most) {
                most = Integer.bitCount(more.safe());
                best = c;
            }
        }
        due("matters(0)", x.matters(0), doorBits);
        due("matters(1)", x.matters(1), looBits);
        due("loo()", x.loo(), best);
        for (int i = 0; i < 4; i++) {
            int set = random.nextInt(1 << o.coaches);
            Oracle other = o.copy();
            for (int c = 0; c < o.coaches; c++) {
                other.doors[c] = (set >> c & 1) == 1;
            }
            due("doors(" + set + ")", x.doors(set), Integer.bitCount(other.safe()));
        }
    }

    private static void compareDrawn(CoachAhead x, Oracle o, Random random) {
        for (int r = 0; r < o.riders.size(); r++) {
            int seed = random.nextInt(2000000001);
            due("drawn(" + seed + ", " + r + ")", x.drawn(seed, r), o.drawn(seed, r));
            int n = 1 + random.nextInt(20);
            int sum = 0;
            for (int i = 0; i < n; i++) {
                sum += o.drawn(seed + i, r) >= 0 ? 1 : 0;
            }
            due("trips(" + seed + ", " + n + ", " + r + ")", x.trips(seed, n, r), sum);
        }
    }

    /** Changes, each with a look at what it made, then taken back one by one. */
    private static void changeSome(CoachAhead x, Oracle o, Random random) {
        List<Oracle> before = new ArrayList<>();
        for (int i = 0; i < 4; i++) {
            before.add(o.copy());
            int c = random.nextInt(o.coaches);
            switch (random.nextInt(o.inspectors.isEmpty() ? 3 : 4)) {
                case 0:
                    int people = random.nextInt(100);
                    due("set people", x.set(c, 0, people), o.people[c]);
                    o.people[c] = people;
                    break;
                case 1:
                    due("set loo", x.set(c, 1, o.loo[c] ? 0 : 1), o.loo[c] ? 1 : 0);
                    o.loo[c] = !o.loo[c];
                    break;
                case 2:
                    due("set doors", x.set(c, 2, o.doors[c] ? 0 : 1), o.doors[c] ? 1 : 0);
                    o.doors[c] = !o.doors[c];
                    break;
                default:
                    int which = random.nextInt(o.inspectors.size());
                    Oracle.Inspector old = o.inspectors.get(which);
                    int begin = 2 * c + random.nextInt(2);
                    due("send", x.send(which, begin), 2 * old.coach() + (old.up() ? 0 : 1));
                    o.inspectors.set(which,
                        new Oracle.Inspector(c, begin % 2 == 0, old.pace(), old.knocks(), old.turns()));
                    break;
            }
            compareLittle(x, o);
        }
        for (int i = before.size() - 1; i >= 0; i--) {
            due("undo()", x.undo(), i);
            compareLittle(x, before.get(i));
        }
        due("undo()", x.undo(), -5);
    }

    private static void compareLittle(CoachAhead x, Oracle o) {
        compareCourses(x, o);
        compareTrips(x, o);
        due("safe()", x.safe(), o.safe());
        if (!o.inspectors.isEmpty() && o.coaches * o.minutes <= 12) {
            compareBegins(x, o);
        }
    }
}
