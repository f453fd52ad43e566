import java.util.ArrayList;
import java.util.Collections;
import java.util.Comparator;
import java.util.HashMap;
import java.util.HashSet;
import java.util.List;
import java.util.Map;
import java.util.Set;

/** The document told a second time, as plainly as can be and without a thought to speed. */
final class Oracle {
    static final int NONE = -1;

    record Inspector(int coach, boolean up, int pace, int knocks, boolean turns) { }

    record Rider(int coach, int rule, int sees, int looks, boolean ticket) { }

    record Place(int coach, boolean loo) { }

    record Move(int step, Place to) { }

    record State(Place place, int minute) { }

    int coaches;
    int minutes;
    int every;
    int fare;
    int fine;
    int[] people = new int[8];
    boolean[] loo = new boolean[8];
    boolean[] doors = new boolean[8];
    List<Inspector> inspectors = new ArrayList<>();
    List<Rider> riders = new ArrayList<>();
    int[] odds = new int[7];

    Oracle copy() {
        Oracle o = new Oracle();
        o.coaches = coaches;
        o.minutes = minutes;
        o.every = every;
        o.fare = fare;
        o.fine = fine;
        o.people = people.clone();
        o.loo = loo.clone();
        o.doors = doors.clone();
        o.inspectors = new ArrayList<>(inspectors);
        o.riders = new ArrayList<>(riders);
        o.odds = odds.clone();
        return o;
    }

    // ---- the text ----

    String text() {
        StringBuilder text = new StringBuilder("train coaches " + coaches + " minutes " + minutes + " every " + every
            + " fare " + fare + " fine " + fine + ";\n");
        for (int c = 0; c < coaches; c++) {
            if (people[c] > 0 || loo[c] || doors[c]) {
                text.append("coach ").append(c).append(" people ").append(people[c])
                    .append(loo[c] ? " loo" : "").append(doors[c] ? " doors" : "").append(";\n");
            }
        }
        String[] rules = {"stay", "forward", "loo", "round"};
        for (Inspector i : inspectors) {
            text.append("inspector at ").append(i.coach).append(i.up ? " up" : " down").append(" pace ").append(i.pace)
                .append(i.turns ? " turns" : "").append(i.knocks > 0 ? " knocks " + i.knocks : "").append(";\n");
        }
        for (Rider r : riders) {
            text.append("rider in ").append(r.coach).append(" ").append(rules[r.rule]).append(" sees ").append(r.sees)
                .append(" looks ").append(r.looks).append(r.ticket ? " ticket" : "").append(";\n");
        }
        for (int d = 0; d < 7; d++) {
            if (odds[d] > 0) {
                text.append("day ").append(d).append(" odds ").append(odds[d]).append(";\n");
            }
        }
        return text.toString();
    }

    // ---- INSPECTORS ----

    boolean isStop(int minute) {
        for (int s = every; s <= minute; s += every) {
            if (s == minute) {
                return true;
            }
        }
        return false;
    }

    int at(Inspector i, int minute) {
        List<Integer> visits = new ArrayList<>();
        int coach = i.coach;
        boolean up = i.up;
        while (visits.size() <= minute) {
            for (int stay = 0; stay < 1 + people[coach] / i.pace; stay++) {
                visits.add(coach);
            }
            int end = up ? coaches - 1 : 0;
            if (coach == end) {
                if (!i.turns) {
                    break;
                }
                up = !up;
            }
            coach += up ? 1 : -1;
        }
        return minute < visits.size() ? visits.get(minute) : NONE;
    }

    int watched(int minute) {
        int bits = 0;
        for (Inspector i : inspectors) {
            if (at(i, minute) != NONE) {
                bits |= 1 << at(i, minute);
            }
        }
        return bits;
    }

    // ---- being HAD ----

    boolean has(Inspector i, Place place, int minute) {
        return at(i, minute) == place.coach && (!place.loo || i.knocks > 0);
    }

    /** Whether one who walks through the train from one COACH to the one beside meets this one. */
    boolean meets(Inspector i, int from, int to, int minute) {
        return minute > 0 && Math.abs(from - to) == 1 && at(i, minute - 1) == to && at(i, minute) == from;
    }

    boolean had(Place place, int minute) {
        return inspectors.stream().anyMatch(i -> has(i, place, minute));
    }

    List<Move> moves(Place place, int minute) {
        List<Move> moves = new ArrayList<>();
        int c = place.coach;
        moves.add(new Move(0, place));
        if (c + 1 < coaches) {
            moves.add(new Move(1, new Place(c + 1, false)));
        }
        if (c > 0) {
            moves.add(new Move(2, new Place(c - 1, false)));
        }
        if (place.loo || loo[c]) {
            moves.add(new Move(3, new Place(c, !place.loo)));
        }
        if (isStop(minute) && !place.loo && doors[c]) {
            for (int d = 0; d < coaches; d++) {
                if (d != c && doors[d]) {
                    moves.add(new Move(4 + d, new Place(d, false)));
                }
            }
        }
        return moves;
    }

    boolean hadAfter(Place from, Move move, int minute) {
        boolean walks = move.step == 1 || move.step == 2;
        return had(move.to, minute + 1) || walks
            && inspectors.stream().anyMatch(i -> meets(i, from.coach, move.to.coach, minute + 1));
    }

    // ---- staying UNCAUGHT: the fewest STEPS but 0, or a great number ----

    static final int GREAT = 1000;

    int effort(Place place, int minute, Map<State, Integer> known) {
        State state = new State(place, minute);
        Integer answer = known.get(state);
        if (answer != null) {
            return answer;
        }
        int best = GREAT;
        if (!had(place, minute)) {
            if (minute == minutes - 1) {
                best = 0;
            } else {
                for (Move move : moves(place, minute)) {
                    if (!hadAfter(place, move, minute)) {
                        best = Math.min(best, effort(move.to, minute + 1, known) + (move.step == 0 ? 0 : 1));
                    }
                }
            }
        }
        best = Math.min(best, GREAT);
        known.put(state, best);
        return best;
    }

    boolean can(Place place, int minute) {
        return effort(place, minute, new HashMap<>()) < GREAT;
    }

    int safe() {
        Map<State, Integer> known = new HashMap<>();
        int bits = 0;
        for (int c = 0; c < coaches; c++) {
            if (effort(new Place(c, false), 0, known) < GREAT) {
                bits |= 1 << c;
            }
        }
        return bits;
    }

    List<Integer> path(int coach) {
        Map<State, Integer> known = new HashMap<>();
        Place place = new Place(coach, false);
        List<Integer> steps = new ArrayList<>();
        if (effort(place, 0, known) >= GREAT) {
            return steps;
        }
        for (int m = 0; m < minutes - 1; m++) {
            for (Move move : moves(place, m)) {
                if (!hadAfter(place, move, m) && effort(move.to, m + 1, known) < GREAT) {
                    steps.add(move.step);
                    place = move.to;
                    break;
                }
            }
        }
        return steps;
    }

    int lasts(Place place, int minute, Map<State, Integer> known) {
        if (had(place, minute)) {
            return minute;
        }
        if (minute == minutes - 1) {
            return minutes;
        }
        State state = new State(place, minute);
        Integer answer = known.get(state);
        if (answer != null) {
            return answer;
        }
        int best = 0;
        for (Move move : moves(place, minute)) {
            best = Math.max(best, hadAfter(place, move, minute) ? minute + 1 : lasts(move.to, minute + 1, known));
        }
        known.put(state, best);
        return best;
    }

    int room(int minute) {
        Set<Place> places = new HashSet<>();
        for (int c = 0; c < coaches; c++) {
            if (!had(new Place(c, false), 0)) {
                places.add(new Place(c, false));
            }
        }
        for (int m = 0; m < minute; m++) {
            Set<Place> next = new HashSet<>();
            for (Place place : places) {
                for (Move move : moves(place, m)) {
                    if (!hadAfter(place, move, m)) {
                        next.add(move.to);
                    }
                }
            }
            places = next;
        }
        return places.size();
    }

    // ---- BEGINS ----

    Inspector begun(int begin) {
        Inspector i = inspectors.get(0);
        return new Inspector(begin / 2, begin % 2 == 0, i.pace, i.knocks, i.turns);
    }

    Oracle with(int... begins) {
        Oracle o = copy();
        o.inspectors = new ArrayList<>();
        for (int b : begins) {
            o.inspectors.add(begun(b));
        }
        return o;
    }

    List<Integer> fewest() {
        int n = 2 * coaches;
        for (int a = 0; a < n; a++) {
            if (with(a).safe() == 0) {
                return List.of(a);
            }
        }
        for (int a = 0; a < n; a++) {
            for (int b = a; b < n; b++) {
                if (with(a, b).safe() == 0) {
                    return List.of(a, b);
                }
            }
        }
        for (int a = 0; a < n; a++) {
            for (int b = a; b < n; b++) {
                for (int c = b; c < n; c++) {
                    if (with(a, b, c).safe() == 0) {
                        return List.of(a, b, c);
                    }
                }
            }
        }
        return List.of();
    }

    int leaves(int begin) {
        return Integer.bitCount(with(begin).safe());
    }

    // ---- RULES ----

    /** Where a RIDER is MINUTE by MINUTE. */
    List<Place> ride(Rider r) {
        List<Place> places = new ArrayList<>();
        Place place = new Place(r.coach, false);
        for (int m = 0; m < minutes; m++) {
            places.add(place);
            place = next(r, place, m);
        }
        return places;
    }

    Place next(Rider r, Place place, int m) {
        int c = place.coach;
        List<Integer> spots = new ArrayList<>();
        for (Inspector i : inspectors) {
            if (at(i, m) != NONE) {
                spots.add(at(i, m));
            }
        }
        Collections.sort(spots);
        Integer seen = null;
        for (int spot : spots) {
            if (Math.abs(spot - c) <= r.sees && (seen == null || Math.abs(spot - c) < Math.abs(seen - c))) {
                seen = spot;
            }
        }
        if (r.rule == 1 && seen != null) {
            int to = seen <= c ? c + 1 : c - 1;
            return to >= 0 && to < coaches ? new Place(to, false) : place;
        }
        if (r.rule == 2) {
            if (place.loo) {
                return seen == null ? new Place(c, false) : place;
            }
            return seen != null && loo[c] ? new Place(c, true) : place;
        }
        if (r.rule == 3 && isStop(m) && doors[c] && !spots.isEmpty()) {
            int best = c;
            for (int d = coaches - 1; d >= 0; d--) {
                boolean farther = near(spots, d) > near(spots, c);
                if (doors[d] && farther && near(spots, d) >= near(spots, best)) {
                    best = d;
                }
            }
            return new Place(best, false);
        }
        return place;
    }

    static int near(List<Integer> spots, int coach) {
        return spots.stream().mapToInt(s -> Math.abs(s - coach)).min().orElseThrow();
    }

    /** The first MINUTE and the INSPECTOR, or NONE twice. */
    int[] had(Rider r) {
        List<Place> places = ride(r);
        for (int m = 0; m < minutes; m++) {
            for (int i = 0; i < inspectors.size(); i++) {
                boolean met = m > 0 && meets(inspectors.get(i), places.get(m - 1).coach, places.get(m).coach, m);
                if (met || has(inspectors.get(i), places.get(m), m)) {
                    return new int[] {m, i};
                }
            }
        }
        return new int[] {NONE, NONE};
    }

    int walks(Rider r) {
        List<Place> places = ride(r);
        int last = had(r)[0] == NONE ? minutes - 1 : had(r)[0];
        int sum = 0;
        for (int m = 0; m < last; m++) {
            sum += places.get(m).coach == places.get(m + 1).coach ? 0 : 1;
        }
        return sum;
    }

    int table(Rider r, int rule, int begin) {
        int minute = with(begin).had(new Rider(r.coach, rule, r.sees, r.looks, r.ticket))[0];
        return minute == NONE ? minutes : minute;
    }

    /** By looks, the most first. */
    List<Integer> asked() {
        List<Integer> order = new ArrayList<>();
        for (int r = 0; r < riders.size(); r++) {
            order.add(r);
        }
        order.sort(Comparator.comparingInt(r -> -riders.get(r).looks));
        return order;
    }

    // ---- trips drawn ----

    int drawn(int seed, int rider) {
        long x = seed;
        List<List<Place>> rides = new ArrayList<>();
        int[] first = new int[riders.size()];
        for (int r = 0; r < riders.size(); r++) {
            rides.add(ride(riders.get(r)));
            first[r] = NONE;
        }
        for (int m = 0; m < minutes; m++) {
            for (int r = 0; r < riders.size(); r++) {
                Place place = rides.get(r).get(m);
                for (Inspector i : inspectors) {
                    boolean caught = false;
                    if (place.loo) {
                        boolean comes = at(i, m) == place.coach && (m == 0 || at(i, m - 1) != place.coach);
                        if (comes && i.knocks > 0) {
                            x = (1103515245L * x + 12345L) % 2147483648L;
                            caught = x / 65536 % 100 < i.knocks;
                        }
                    } else {
                        caught = at(i, m) == place.coach
                            || m > 0 && meets(i, rides.get(r).get(m - 1).coach, place.coach, m);
                    }
                    if (caught && first[r] == NONE) {
                        first[r] = m;
                    }
                }
            }
        }
        return first[rider];
    }
}
