import java.util.Arrays;

/**
 * A train told as a text, and what inspectors and riders make of it. The numbered promises of the
 * document say what each public method answers; the words in capitals are the document's terms.
 */
public final class CoachAhead {
    public static final int NONE = -1;

    private static final int NO_SUCH = -2;
    private static final int BELOW_ZERO = -3;
    private static final int FAULTY = -4;
    private static final int NO_CHANGE = -5;
    private static final int NOTHING = -6;
    private static final int BEYOND = -7;
    private static final int UNLIKE = -8;

    private static final int MOST_COACHES = 8;
    private static final int MOST_MINUTES = 40;
    private static final int MOST_INSPECTORS = 3;
    private static final int MOST_RIDERS = 6;
    private static final int MOST_BEGINS = 2 * MOST_COACHES;
    private static final int MOST_CHANGES = 60;
    private static final int MOST_FINE = 100000;
    private static final int MOST_TRIPS = 20;
    private static final int MOST_SEED = 2000000000;
    private static final int DAYS = 7;
    private static final int RULES = 4;
    private static final int SLOTS = 4;
    private static final int IMAGES = 3;
    private static final int STEPS = 4 + MOST_COACHES;

    private final Tape tape;
    private final Reader reader;
    private final Train now;
    private final Train draft;
    private final Train[] images;
    private final Course[] courses;
    private final Course[] begun;
    private final Ride[] rides;
    private final Chase chase;
    private final Hunt hunt;
    private final Draws draws;
    private final Row[] slots;
    private final boolean[] fits;
    private final int[] marks;

    public CoachAhead() {
        tape = new Tape();
        reader = new Reader(tape);
        now = new Train();
        draft = new Train();
        images = new Train[IMAGES];
        for (int k = 0; k < IMAGES; k++) {
            images[k] = new Train();
        }
        courses = new Course[MOST_INSPECTORS];
        for (int i = 0; i < MOST_INSPECTORS; i++) {
            courses[i] = new Course();
        }
        begun = new Course[MOST_BEGINS];
        for (int b = 0; b < MOST_BEGINS; b++) {
            begun[b] = new Course();
        }
        rides = new Ride[MOST_RIDERS];
        for (int r = 0; r < MOST_RIDERS; r++) {
            rides[r] = new Ride(now, courses);
        }
        chase = new Chase(now);
        hunt = new Hunt(now);
        draws = new Draws();
        slots = new Row[SLOTS];
        for (int s = 0; s < SLOTS; s++) {
            slots[s] = new Row();
        }
        fits = new boolean[MOST_BEGINS];
        marks = new int[RULES * MOST_BEGINS];
    }

    // ---- the TAPE and the TRAIN ----

    public int feed(int a, int b, int c, int d, int e) {
        if (!tape.hasRoom()) {
            return NONE;
        }
        tape.put(a);
        tape.put(b);
        tape.put(c);
        tape.put(d);
        tape.put(e);
        return tape.size;
    }

    public int end(int n) {
        if (n < 0 || n > tape.size) {
            return NONE;
        }
        tape.size = n;
        return n;
    }

    public int train() {
        boolean good = reader.readInto(draft);
        // Read as empty after a FAULT too, where the next text would else come behind the refused one.
        tape.size = 0;
        if (!good) {
            return FAULTY;
        }
        now.takeFrom(draft);
        hunt.forget();
        return now.lines();
    }

    public int fault(int what) {
        if (what == 0) {
            return reader.fault;
        }
        return what == 1 ? reader.place : NONE;
    }

    public int coach(int coach, int what) {
        return now.hasCoach(coach) && what >= 0 && what < Train.COACH_WIDTH ? now.ofCoach(coach, what) : NO_SUCH;
    }

    public int inspector(int inspector, int what) {
        boolean there = now.hasInspector(inspector) && what >= 0 && what < Train.INSPECTOR_WIDTH;
        return there ? now.ofInspector(inspector, what) : NO_SUCH;
    }

    public int rider(int rider, int what) {
        return now.hasRider(rider) && what >= 0 && what < Train.RIDER_WIDTH ? now.ofRider(rider, what) : NO_SUCH;
    }

    public int day(int day) {
        return now.hasDay(day) ? now.odds[day] : NO_SUCH;
    }

    // ---- where INSPECTORS are ----

    public int stop(int minute) {
        if (!now.hasMinute(minute)) {
            return NO_SUCH;
        }
        return now.isStop(minute) ? 1 : 0;
    }

    public int at(int inspector, int minute) {
        if (!now.hasInspector(inspector) || !now.hasMinute(minute)) {
            return NO_SUCH;
        }
        followAll();
        return courses[inspector].spots[minute];
    }

    public int stays(int inspector, int coach) {
        if (!now.hasInspector(inspector) || !now.hasCoach(coach)) {
            return NO_SUCH;
        }
        return now.stayIn(coach, now.ofInspector(inspector, Train.PACE));
    }

    public int comes(int inspector, int coach) {
        if (!now.hasInspector(inspector) || !now.hasCoach(coach)) {
            return NO_SUCH;
        }
        followAll();
        for (int m = 0; m < now.minutes(); m++) {
            if (courses[inspector].spots[m] == coach) {
                return m;
            }
        }
        return NONE;
    }

    public int watched(int minute) {
        if (!now.hasMinute(minute)) {
            return NO_SUCH;
        }
        openChase();
        return chase.guarded[minute];
    }

    public int never() {
        if (!now.stands()) {
            return NO_SUCH;
        }
        openChase();
        int ever = 0;
        for (int m = 0; m < now.minutes(); m++) {
            ever |= chase.guarded[m];
        }
        return now.allCoaches() & ~ever;
    }

    // ---- the TRIP ----

    public int where(int rider, int minute) {
        if (!now.hasRider(rider) || !now.hasMinute(minute)) {
            return NO_SUCH;
        }
        Ride ride = tripOf(rider);
        return ride.inLoo(minute) ? ride.coachIn(minute) + 10 : ride.coachIn(minute);
    }

    public int had(int rider) {
        return now.hasRider(rider) ? tripOf(rider).caughtIn : NO_SUCH;
    }

    public int by(int rider) {
        return now.hasRider(rider) ? tripOf(rider).caughtBy : NO_SUCH;
    }

    public int fined() {
        if (!now.stands()) {
            return NO_SUCH;
        }
        rideAll();
        int bits = 0;
        for (int r = 0; r < now.riders(); r++) {
            if (!now.hasTicket(r) && rides[r].caughtIn != NONE) {
                bits |= 1 << r;
            }
        }
        return bits;
    }

    public int brings() {
        if (!now.stands()) {
            return NO_SUCH;
        }
        rideAll();
        int sum = 0;
        for (int r = 0; r < now.riders(); r++) {
            if (now.hasTicket(r)) {
                sum += now.fare();
            } else if (rides[r].caughtIn != NONE) {
                sum += now.fineSum();
            }
        }
        return sum;
    }

    public int walks(int rider) {
        if (!now.hasRider(rider)) {
            return NO_SUCH;
        }
        Ride ride = tripOf(rider);
        int last = ride.caughtIn == NONE ? now.minutes() - 1 : ride.caughtIn;
        int changes = 0;
        for (int m = 1; m <= last; m++) {
            if (ride.coachIn(m) != ride.coachIn(m - 1)) {
                changes++;
            }
        }
        return changes;
    }

    // ---- staying UNCAUGHT ----

    public int can(int coach, int loo, int minute) {
        if (!now.hasCoach(coach) || !now.hasMinute(minute) || loo < 0 || loo > 1) {
            return NO_SUCH;
        }
        if (loo == 1 && now.ofCoach(coach, Train.LOO) == 0) {
            return NO_SUCH;
        }
        openChase();
        chase.solve();
        return chase.isOpen(loo == 1 ? coach + Chase.LOOS_FROM : coach, minute) ? 1 : 0;
    }

    public int safe() {
        if (!now.stands()) {
            return NO_SUCH;
        }
        openChase();
        return chase.solve();
    }

    public int path(int coach, int i) {
        if (!now.hasCoach(coach)) {
            return NO_SUCH;
        }
        openChase();
        chase.solve();
        if (i < 0 || i >= now.minutes() - 1 || !chase.isOpen(coach, 0)) {
            return NONE;
        }
        int place = coach;
        int step = 0;
        for (int m = 0; m <= i; m++) {
            step = chase.leastStep(place, m);
            place = chase.goal(place, step, m);
        }
        return step;
    }

    public int effort(int coach) {
        if (!now.hasCoach(coach)) {
            return NO_SUCH;
        }
        openChase();
        chase.solve();
        return chase.fewestSteps(coach);
    }

    public int lasts(int coach) {
        if (!now.hasCoach(coach)) {
            return NO_SUCH;
        }
        openChase();
        int places = chase.outset(1 << coach);
        for (int m = 0; m < now.minutes(); m++) {
            if (places == 0) {
                return m;
            }
            places = chase.onward(places, m);
        }
        return now.minutes();
    }

    public int room(int minute) {
        if (!now.hasMinute(minute)) {
            return NO_SUCH;
        }
        openChase();
        int places = chase.outset(now.allCoaches());
        for (int m = 0; m < minute; m++) {
            places = chase.onward(places, m);
        }
        return Integer.bitCount(places);
    }

    // ---- BEGINS of INSPECTOR 0 ----

    public int fewest() {
        if (!now.hasInspector(0)) {
            return NO_SUCH;
        }
        seekFewest();
        return hunt.size;
    }

    public int begins(int i) {
        if (!now.hasInspector(0)) {
            return NO_SUCH;
        }
        seekFewest();
        return i >= 0 && i < hunt.size ? hunt.picks[i] : NONE;
    }

    public int leaves(int begin) {
        if (!now.hasInspector(0) || !now.hasBegin(begin)) {
            return NO_SUCH;
        }
        return openBy(begin);
    }

    public int begin() {
        if (!now.hasInspector(0)) {
            return NO_SUCH;
        }
        int best = 0;
        int least = openBy(0);
        for (int b = 1; b < now.beginCount(); b++) {
            int left = openBy(b);
            if (left < least) {
                least = left;
                best = b;
            }
        }
        return best;
    }

    public int table(int rider, int rule, int begin) {
        if (!hasTable(rider) || !isRule(rule) || !now.hasBegin(begin)) {
            return NO_SUCH;
        }
        begun[begin].follow(now, 0, begin);
        return tableMark(rider, rule, begin);
    }

    public int reply(int rider, int begin) {
        if (!hasTable(rider) || !now.hasBegin(begin)) {
            return NO_SUCH;
        }
        fillTable(rider);
        int best = 0;
        for (int rule = 1; rule < RULES; rule++) {
            if (mark(rule, begin) > mark(best, begin)) {
                best = rule;
            }
        }
        return best;
    }

    public int answer(int rider, int rule) {
        if (!hasTable(rider) || !isRule(rule)) {
            return NO_SUCH;
        }
        fillTable(rider);
        int best = 0;
        for (int b = 1; b < now.beginCount(); b++) {
            if (mark(rule, b) < mark(rule, best)) {
                best = b;
            }
        }
        return best;
    }

    public int rests(int rider) {
        if (!hasTable(rider)) {
            return NO_SUCH;
        }
        fillTable(rider);
        int sum = 0;
        for (int rule = 0; rule < RULES; rule++) {
            for (int b = 0; b < now.beginCount(); b++) {
                if (isRest(rule, b)) {
                    sum++;
                }
            }
        }
        return sum;
    }

    public int rest(int rider) {
        if (!hasTable(rider)) {
            return NO_SUCH;
        }
        fillTable(rider);
        for (int rule = 0; rule < RULES; rule++) {
            for (int b = 0; b < now.beginCount(); b++) {
                if (isRest(rule, b)) {
                    return 100 * rule + b;
                }
            }
        }
        return NONE;
    }

    public int sure(int rider) {
        if (!hasTable(rider)) {
            return NO_SUCH;
        }
        fillTable(rider);
        int latest = 0;
        for (int rule = 0; rule < RULES; rule++) {
            latest = Math.max(latest, earliest(rule));
        }
        return latest;
    }

    // ---- whom to ask ----

    public int ask(int n) {
        return canAsk(n) ? askedBits(n) : NO_SUCH;
    }

    public int found(int n) {
        return canAsk(n) ? Integer.bitCount(askedBits(n) & dodgerBits()) : NO_SUCH;
    }

    public int asks() {
        if (!now.stands()) {
            return NO_SUCH;
        }
        int dodgers = dodgerBits();
        for (int n = 0; n < now.riders(); n++) {
            if ((dodgers & ~askedBits(n)) == 0) {
                return n;
            }
        }
        return now.riders();
    }

    // ---- when it pays not to pay ----

    public int dodges(int rider, int day) {
        if (!now.hasRider(rider) || !now.hasDay(day)) {
            return NO_SUCH;
        }
        return pays(isHad(rider), now.fineSum(), now.odds[day]) ? 0 : 1;
    }

    public int week(int rider) {
        if (!now.hasRider(rider)) {
            return NO_SUCH;
        }
        boolean caught = isHad(rider);
        int sum = 0;
        for (int d = 0; d < DAYS; d++) {
            int risk = caught ? now.fineSum() * now.odds[d] : 0;
            sum += Math.min(100 * now.fare(), risk);
        }
        return sum;
    }

    public int fine(int rider, int day) {
        if (!now.hasRider(rider) || !now.hasDay(day)) {
            return NO_SUCH;
        }
        return leastToPay(isHad(rider) ? now.odds[day] : 0, MOST_FINE);
    }

    public int often(int rider) {
        if (!now.hasRider(rider)) {
            return NO_SUCH;
        }
        return leastToPay(isHad(rider) ? now.fineSum() : 0, 100);
    }

    public int mean(int rider, int what) {
        if (!now.hasRider(rider) || what < 0 || what > 1) {
            return NO_SUCH;
        }
        int above = 0;
        if (isHad(rider)) {
            for (int d = 0; d < DAYS; d++) {
                above += now.fineSum() * now.odds[d];
            }
        }
        int below = 100 * DAYS;
        int common = commonDivisor(above, below);
        if (common < 1) {
            return NO_SUCH;
        }
        return what == 0 ? above / common : below / common;
    }

    public int learns(int rider, int n) {
        if (!now.hasRider(rider) || n < 0 || n > DAYS) {
            return NO_SUCH;
        }
        boolean caught = isHad(rider);
        int onSure = pays(caught, now.fineSum(), 100) ? n : 0;
        int onFree = pays(caught, now.fineSum(), 0) ? DAYS - n : 0;
        return onSure + onFree;
    }

    // ---- sightings ----

    public int sighted(int slot) {
        int state = sightingState(slot);
        return state == 0 ? fitBegins(slots[slot]) : state;
    }

    public int told(int slot) {
        int state = sightingState(slot);
        if (state != 0) {
            return state;
        }
        fitBegins(slots[slot]);
        for (int b = 0; b < now.beginCount(); b++) {
            if (fits[b]) {
                return b;
            }
        }
        return NONE;
    }

    public int may(int slot, int minute) {
        if (!now.hasMinute(minute)) {
            return NO_SUCH;
        }
        int state = sightingState(slot);
        if (state != 0) {
            return state;
        }
        fitBegins(slots[slot]);
        int bits = 0;
        for (int b = 0; b < now.beginCount(); b++) {
            int spot = begun[b].spots[minute];
            if (fits[b] && spot != NONE) {
                bits |= 1 << spot;
            }
        }
        return bits;
    }

    public int look(int slot) {
        int state = sightingState(slot);
        if (state != 0) {
            return state;
        }
        int least = fitBegins(slots[slot]);
        int best = NONE;
        for (int m = 0; m < now.minutes(); m++) {
            int worst = worstLeft(m);
            if (worst < least) {
                least = worst;
                best = m;
            }
        }
        return best;
    }

    // ---- doors and LOOS that matter ----

    public int matters(int what) {
        if (!now.stands() || what < 0 || what > 1) {
            return NO_SUCH;
        }
        openChase();
        int most = Integer.bitCount(chase.solve());
        int bits = 0;
        for (int c = 0; c < now.coaches(); c++) {
            chase.doors = what == 0 ? now.doorBits() & ~(1 << c) : now.doorBits();
            chase.loos = what == 1 ? now.looBits() & ~(1 << c) : now.looBits();
            if (Integer.bitCount(chase.solve()) < most) {
                bits |= 1 << c;
            }
        }
        return bits;
    }

    public int doors(int set) {
        if (!now.stands() || set < 0 || set > now.allCoaches()) {
            return NO_SUCH;
        }
        openChase();
        chase.doors = set;
        return Integer.bitCount(chase.solve());
    }

    public int loo() {
        if (!now.stands()) {
            return NO_SUCH;
        }
        openChase();
        int most = Integer.bitCount(chase.solve());
        int best = NONE;
        for (int c = 0; c < now.coaches(); c++) {
            chase.loos = now.looBits() | 1 << c;
            int free = Integer.bitCount(chase.solve());
            if (free > most) {
                most = free;
                best = c;
            }
        }
        return best;
    }

    // ---- changes ----

    public int set(int coach, int what, int n) {
        int most = what == Train.PEOPLE ? 99 : 1;
        if (!now.hasCoach(coach) || what < 0 || what >= Train.COACH_WIDTH || n < 0 || n > most) {
            return NO_SUCH;
        }
        if (now.changeCount >= MOST_CHANGES) {
            return NO_CHANGE;
        }
        int old = now.ofCoach(coach, what);
        now.remember(what, coach, old);
        now.putCoach(coach, what, n);
        hunt.forget();
        return old;
    }

    public int send(int inspector, int begin) {
        if (!now.hasInspector(inspector) || !now.hasBegin(begin)) {
            return NO_SUCH;
        }
        if (now.changeCount >= MOST_CHANGES) {
            return NO_CHANGE;
        }
        int old = now.beginOf(inspector);
        now.remember(Train.SENT, inspector, old);
        now.putBegin(inspector, begin);
        hunt.forget();
        return old;
    }

    public int undo() {
        if (!now.stands()) {
            return NO_SUCH;
        }
        if (now.changeCount <= 0) {
            return NO_CHANGE;
        }
        now.takeBack();
        hunt.forget();
        return now.changeCount;
    }

    // ---- trips drawn ----

    public int drawn(int seed, int rider) {
        if (!isSeed(seed) || !now.hasRider(rider)) {
            return NO_SUCH;
        }
        rideAll();
        return drawnMinute(seed, rider);
    }

    public int trips(int seed, int n, int rider) {
        if (!isSeed(seed) || !now.hasRider(rider) || n < 1 || n > MOST_TRIPS) {
            return NO_SUCH;
        }
        rideAll();
        int sum = 0;
        for (int i = 0; i < n; i++) {
            if (drawnMinute(seed + i, rider) != NONE) {
                sum++;
            }
        }
        return sum;
    }

    // ---- counts, IMAGES, SLOTS ----

    public int count(int what) {
        if (what >= 0 && what < Train.HEAD_WIDTH) {
            return now.head[what];
        }
        switch (what) {
            case 8:
                return tape.size;
            case 9:
                return now.changeCount;
            case 10:
                return filledSlots();
            default:
                return NONE;
        }
    }

    public int image(int k) {
        if (k < 0 || k >= IMAGES) {
            return NO_SUCH;
        }
        images[k].takeFrom(now);
        images[k].kept = true;
        return 0;
    }

    public int back(int k) {
        if (k < 0 || k >= IMAGES) {
            return NO_SUCH;
        }
        if (!images[k].kept) {
            return NOTHING;
        }
        now.takeFrom(images[k]);
        hunt.forget();
        return 0;
    }

    public int row(int slot, int width, int n) {
        if (!isSlot(slot) || width < 0 || width > Row.MOST_WIDTH || n > Row.MOST) {
            return NO_SUCH;
        }
        if (n < 0) {
            return BELOW_ZERO;
        }
        slots[slot].lay(width, n);
        return 0;
    }

    public int write(int slot, int i, long v) {
        if (!isSlot(slot)) {
            return NO_SUCH;
        }
        if (!slots[slot].laid) {
            return NOTHING;
        }
        if (!slots[slot].hasNumber(i)) {
            return BEYOND;
        }
        slots[slot].put(i, v);
        return 0;
    }

    public int paste(int slot, int i, int to, int k, int n) {
        if (!isSlot(slot) || !isSlot(to)) {
            return NO_SUCH;
        }
        Row from = slots[slot];
        Row into = slots[to];
        if (!from.laid || !into.laid) {
            return NOTHING;
        }
        if (from.width != into.width) {
            return UNLIKE;
        }
        if (!from.hasRun(i, n) || !into.hasRun(k, n)) {
            return BEYOND;
        }
        System.arraycopy(from.numbers, i, into.numbers, k, n);
        return 0;
    }

    // ---- what the answers above share ----

    private void followAll() {
        for (int i = 0; i < now.inspectors(); i++) {
            courses[i].follow(now, i, now.beginOf(i));
        }
    }

    private void openChase() {
        followAll();
        chase.restart();
        for (int i = 0; i < now.inspectors(); i++) {
            chase.add(courses[i], now.ofInspector(i, Train.KNOCKS) > 0);
        }
    }

    private Ride tripOf(int rider) {
        followAll();
        return rideOf(rider);
    }

    private void rideAll() {
        followAll();
        for (int r = 0; r < now.riders(); r++) {
            rideOf(r);
        }
    }

    /** A RIDER's way by the TRIP; the INSPECTORS' courses must stand already. */
    private Ride rideOf(int rider) {
        rides[rider].travel(rider, now.ofRider(rider, Train.RULE), now.inspectors());
        return rides[rider];
    }

    private boolean isHad(int rider) {
        followAll();
        return rideOf(rider).caughtIn != NONE;
    }

    private void seekFewest() {
        if (hunt.known) {
            return;
        }
        followBegins();
        hunt.seek(begun);
    }

    private void followBegins() {
        for (int b = 0; b < now.beginCount(); b++) {
            begun[b].follow(now, 0, b);
        }
    }

    /** In how many COACHES one can begin, UNCAUGHT, if INSPECTOR 0 alone goes by a BEGIN. */
    private int openBy(int begin) {
        begun[begin].follow(now, 0, begin);
        chase.restart();
        chase.add(begun[begin], now.ofInspector(0, Train.KNOCKS) > 0);
        return Integer.bitCount(chase.solve());
    }

    private boolean hasTable(int rider) {
        return now.hasRider(rider) && now.hasInspector(0);
    }

    private static boolean isRule(int rule) {
        return rule >= 0 && rule < RULES;
    }

    /** The TABLE's number; the BEGIN's course must stand already. */
    private int tableMark(int rider, int rule, int begin) {
        courses[0].takeFrom(begun[begin]);
        rides[rider].travel(rider, rule, 1);
        return rides[rider].caughtIn == NONE ? now.minutes() : rides[rider].caughtIn;
    }

    private void fillTable(int rider) {
        followBegins();
        for (int rule = 0; rule < RULES; rule++) {
            for (int b = 0; b < now.beginCount(); b++) {
                marks[rule * MOST_BEGINS + b] = tableMark(rider, rule, b);
            }
        }
    }

    private int mark(int rule, int begin) {
        return marks[rule * MOST_BEGINS + begin];
    }

    private int earliest(int rule) {
        int least = mark(rule, 0);
        for (int b = 1; b < now.beginCount(); b++) {
            least = Math.min(least, mark(rule, b));
        }
        return least;
    }

    private boolean isRest(int rule, int begin) {
        int own = mark(rule, begin);
        for (int other = 0; other < RULES; other++) {
            if (mark(other, begin) > own) {
                return false;
            }
        }
        return own == earliest(rule);
    }

    private boolean canAsk(int n) {
        return now.stands() && n >= 0 && n <= MOST_RIDERS;
    }

    private int askedBits(int n) {
        int bits = 0;
        for (int i = 0; i < n && i < now.riders(); i++) {
            int best = NONE;
            for (int r = 0; r < now.riders(); r++) {
                boolean left = (bits >> r & 1) == 0;
                if (left && (best == NONE || now.ofRider(r, Train.LOOKS) > now.ofRider(best, Train.LOOKS))) {
                    best = r;
                }
            }
            if (best != NONE) {
                bits |= 1 << best;
            }
        }
        return bits;
    }

    private int dodgerBits() {
        int bits = 0;
        for (int r = 0; r < now.riders(); r++) {
            if (!now.hasTicket(r)) {
                bits |= 1 << r;
            }
        }
        return bits;
    }

    /** Whether to pay costs no more than not to, with this fine and these odds in hundredths. */
    private boolean pays(boolean caught, int fineSum, int odds) {
        int risk = caught ? fineSum * odds : 0;
        return risk >= 100 * now.fare();
    }

    /** The least number up to most that, times a weight, makes one pay the fare, or NONE. */
    private int leastToPay(int weight, int most) {
        int due = 100 * now.fare();
        if (due == 0) {
            return 0;
        }
        if (weight < 1) {
            return NONE;
        }
        int least = (due + weight - 1) / weight;
        return least <= most ? least : NONE;
    }

    private static int commonDivisor(int a, int b) {
        int x = a;
        int y = b;
        // Euclid's steps for numbers of 31 bits are fewer than 50.
        for (int i = 0; i < 64 && y != 0; i++) {
            int left = x % y;
            x = y;
            y = left;
        }
        return x;
    }

    /** 0 if the SLOT's row tells sightings, else what its call answers. */
    private int sightingState(int slot) {
        if (!isSlot(slot) || !now.hasInspector(0)) {
            return NO_SUCH;
        }
        Row row = slots[slot];
        if (!row.laid) {
            return NOTHING;
        }
        if (row.size % 2 != 0) {
            return NO_SUCH;
        }
        for (int i = 0; i + 1 < row.size; i += 2) {
            long minute = row.numbers[i];
            long coach = row.numbers[i + 1];
            if (minute < 0 || minute >= now.minutes() || coach < 0 || coach >= now.coaches()) {
                return NO_SUCH;
            }
        }
        return 0;
    }

    /** Marks the BEGINS that the row's sightings leave: how many. */
    private int fitBegins(Row row) {
        followBegins();
        int sum = 0;
        for (int b = 0; b < now.beginCount(); b++) {
            fits[b] = true;
            for (int i = 0; i + 1 < row.size; i += 2) {
                if (begun[b].spots[(int) row.numbers[i]] != row.numbers[i + 1]) {
                    fits[b] = false;
                }
            }
            if (fits[b]) {
                sum++;
            }
        }
        return sum;
    }

    private int worstLeft(int minute) {
        int worst = 0;
        for (int place = NONE; place < now.coaches(); place++) {
            int left = 0;
            for (int b = 0; b < now.beginCount(); b++) {
                if (fits[b] && begun[b].spots[minute] == place) {
                    left++;
                }
            }
            worst = Math.max(worst, left);
        }
        return worst;
    }

    private static boolean isSeed(int seed) {
        return seed >= 0 && seed <= MOST_SEED;
    }

    /** The first MINUTE in which a RIDER is HAD by the TRIP drawn; the RIDES must stand already. */
    private int drawnMinute(int seed, int rider) {
        draws.start(seed);
        for (int m = 0; m < now.minutes(); m++) {
            for (int r = 0; r < now.riders(); r++) {
                if (isDrawnHad(r, m) && r == rider) {
                    return m;
                }
            }
        }
        return NONE;
    }

    private boolean isDrawnHad(int rider, int minute) {
        Ride ride = rides[rider];
        boolean caught = false;
        for (int i = 0; i < now.inspectors(); i++) {
            if (!ride.inLoo(minute)) {
                caught |= ride.meets(i, minute);
                continue;
            }
            int knocks = now.ofInspector(i, Train.KNOCKS);
            if (knocks > 0 && courses[i].arrives(ride.coachIn(minute), minute)) {
                // Each knock takes a draw, whether or not the one ahead of it had him.
                boolean hit = draws.draw() < knocks;
                caught |= hit;
            }
        }
        return caught;
    }

    private static boolean isSlot(int slot) {
        return slot >= 0 && slot < SLOTS;
    }

    private int filledSlots() {
        int sum = 0;
        for (int s = 0; s < SLOTS; s++) {
            if (slots[s].laid) {
                sum++;
            }
        }
        return sum;
    }

    /** The bytes that were fed and are no TRAIN yet. */
    private static final class Tape {
        static final int ROOM = 1200;
        static final int PIECE = 20;

        final byte[] bytes = new byte[ROOM];
        int size;

        boolean hasRoom() {
            return size + PIECE <= ROOM;
        }

        void put(int word) {
            for (int shift = 24; shift >= 0 && size < ROOM; shift -= 8) {
                bytes[size] = (byte) (word >>> shift);
                size++;
            }
        }
    }

    /** The TOKENS of a TAPE, one at a time. */
    private static final class Tokens {
        static final int END = 0;
        static final int WORD = 1;
        static final int NUMBER = 2;
        static final int SIGN = 3;
        static final int STRANGE = 4;
        /** Above every bound of a number, and far below what an int holds. */
        static final int HUGE = 1000000;

        final Tape tape;
        int kind;
        int from;
        int to;
        int number;

        Tokens(Tape tape) {
            this.tape = tape;
        }

        void restart() {
            to = 0;
            advance();
        }

        void advance() {
            from = to;
            while (from < tape.size && (tape.bytes[from] == ' ' || tape.bytes[from] == '\n')) {
                from++;
            }
            to = from;
            number = 0;
            if (from >= tape.size) {
                kind = END;
                return;
            }
            kind = kindOf(tape.bytes[from]);
            to++;
            if (kind == WORD || kind == NUMBER) {
                while (to < tape.size && kindOf(tape.bytes[to]) == kind) {
                    to++;
                }
            }
            for (int i = from; i < to && kind == NUMBER && number < HUGE; i++) {
                number = number * 10 + (tape.bytes[i] - '0');
            }
        }

        boolean is(String word) {
            if (kind != WORD || to - from != word.length()) {
                return false;
            }
            for (int i = 0; i < word.length(); i++) {
                if (tape.bytes[from + i] != word.charAt(i)) {
                    return false;
                }
            }
            return true;
        }

        private static int kindOf(byte sign) {
            if (sign >= 'a' && sign <= 'z') {
                return WORD;
            }
            if (sign >= '0' && sign <= '9') {
                return NUMBER;
            }
            return sign == ';' ? SIGN : STRANGE;
        }
    }

    /** Reads a TAPE as a TRAIN, up to its first FAULT. */
    private static final class Reader {
        private static final int[] HEAD_LEAST = {2, 1, 1, 0, 0};
        private static final int[] HEAD_MOST = {8, 40, 20, 99, 999};
        private static final int MISPLACED = 1;
        private static final int OUT_OF_BOUNDS = 2;
        private static final int TOO_MANY = 3;

        final Tokens tokens;
        int fault;
        int place = NONE;

        Reader(Tape tape) {
            tokens = new Tokens(tape);
        }

        boolean readInto(Train train) {
            fault = 0;
            place = NONE;
            train.clear();
            tokens.restart();
            // A LINE has a TOKEN or more, so there are fewer LINES than bytes.
            for (int line = 0; line <= Tape.ROOM && tokens.kind != Tokens.END; line++) {
                boolean good = line == 0 ? readHead(train) : readLine(train);
                if (!good) {
                    return false;
                }
                train.head[Train.LINES]++;
            }
            return true;
        }

        private boolean readLine(Train train) {
            if (tokens.is("coach")) {
                return readCoach(train);
            }
            if (tokens.is("inspector")) {
                return readInspector(train);
            }
            if (tokens.is("rider")) {
                return readRider(train);
            }
            if (tokens.is("day")) {
                return readDay(train);
            }
            return refuse(MISPLACED);
        }

        private boolean readHead(Train train) {
            if (!readWord("train")) {
                return false;
            }
            for (int i = 0; i < HEAD_LEAST.length && i < HEAD_MOST.length; i++) {
                int n = readAfter(headWord(i), HEAD_LEAST[i], HEAD_MOST[i]);
                if (n == NONE) {
                    return false;
                }
                train.head[i] = n;
            }
            return readSign();
        }

        private static String headWord(int i) {
            switch (i) {
                case Train.COACHES:
                    return "coaches";
                case Train.MINUTES:
                    return "minutes";
                case Train.EVERY:
                    return "every";
                case Train.FARE:
                    return "fare";
                default:
                    return "fine";
            }
        }

        private boolean readCoach(Train train) {
            int coach = readAfter("coach", 0, train.coaches() - 1);
            int people = coach == NONE ? NONE : readAfter("people", 0, 99);
            if (people == NONE) {
                return false;
            }
            boolean loo = false;
            boolean doors = false;
            for (int i = 0; i < 2; i++) {
                if (!loo && tokens.is("loo")) {
                    loo = true;
                    tokens.advance();
                } else if (!doors && tokens.is("doors")) {
                    doors = true;
                    tokens.advance();
                }
            }
            train.putCoach(coach, Train.PEOPLE, people);
            train.putCoach(coach, Train.LOO, loo ? 1 : 0);
            train.putCoach(coach, Train.DOORS, doors ? 1 : 0);
            return readSign();
        }

        private boolean readInspector(Train train) {
            int inspector = train.inspectors();
            if (inspector >= MOST_INSPECTORS) {
                return refuse(TOO_MANY);
            }
            tokens.advance();
            int coach = readAfter("at", 0, train.coaches() - 1);
            int way = coach == NONE ? NONE : readWay();
            int pace = way == NONE ? NONE : readAfter("pace", 1, 20);
            if (pace == NONE) {
                return false;
            }
            int knocks = NONE;
            boolean turns = false;
            for (int i = 0; i < 2; i++) {
                if (knocks == NONE && tokens.is("knocks")) {
                    knocks = readAfter("knocks", 0, 100);
                    if (knocks == NONE) {
                        return false;
                    }
                } else if (!turns && tokens.is("turns")) {
                    turns = true;
                    tokens.advance();
                }
            }
            train.head[Train.INSPECTORS]++;
            train.putBegin(inspector, 2 * coach + way);
            train.putInspector(inspector, Train.PACE, pace);
            train.putInspector(inspector, Train.KNOCKS, Math.max(0, knocks));
            train.putInspector(inspector, Train.TURNS, turns ? 1 : 0);
            return readSign();
        }

        private boolean readRider(Train train) {
            int rider = train.riders();
            if (rider >= MOST_RIDERS) {
                return refuse(TOO_MANY);
            }
            tokens.advance();
            int coach = readAfter("in", 0, train.coaches() - 1);
            int rule = coach == NONE ? NONE : readRule();
            int sees = rule == NONE ? NONE : readAfter("sees", 0, 7);
            int looks = sees == NONE ? NONE : readAfter("looks", 0, 100);
            if (looks == NONE) {
                return false;
            }
            boolean ticket = tokens.is("ticket");
            if (ticket) {
                tokens.advance();
            }
            train.head[Train.RIDERS]++;
            train.putRider(rider, Train.COACH, coach);
            train.putRider(rider, Train.RULE, rule);
            train.putRider(rider, Train.SEES, sees);
            train.putRider(rider, Train.LOOKS, looks);
            train.putRider(rider, Train.TICKET, ticket ? 1 : 0);
            return readSign();
        }

        private boolean readDay(Train train) {
            int day = readAfter("day", 0, DAYS - 1);
            int odds = day == NONE ? NONE : readAfter("odds", 0, 100);
            if (odds == NONE) {
                return false;
            }
            train.odds[day] = odds;
            return readSign();
        }

        private int readWay() {
            int way = tokens.is("up") ? 0 : tokens.is("down") ? 1 : NONE;
            return readChoice(way);
        }

        private int readRule() {
            int rule = NONE;
            if (tokens.is("stay")) {
                rule = Ride.STAY;
            } else if (tokens.is("forward")) {
                rule = Ride.FORWARD;
            } else if (tokens.is("loo")) {
                rule = Ride.HIDE;
            } else if (tokens.is("round")) {
                rule = Ride.ROUND;
            }
            return readChoice(rule);
        }

        private int readChoice(int choice) {
            if (choice == NONE) {
                refuse(MISPLACED);
            } else {
                tokens.advance();
            }
            return choice;
        }

        /** The number behind a word, or NONE at a FAULT. */
        private int readAfter(String word, int least, int most) {
            if (!readWord(word)) {
                return NONE;
            }
            if (tokens.kind != Tokens.NUMBER) {
                refuse(MISPLACED);
                return NONE;
            }
            int n = tokens.number;
            if (n < least || n > most) {
                refuse(OUT_OF_BOUNDS);
                return NONE;
            }
            tokens.advance();
            return n;
        }

        private boolean readWord(String word) {
            if (!tokens.is(word)) {
                return refuse(MISPLACED);
            }
            tokens.advance();
            return true;
        }

        private boolean readSign() {
            if (tokens.kind != Tokens.SIGN) {
                return refuse(MISPLACED);
            }
            tokens.advance();
            return true;
        }

        private boolean refuse(int kind) {
            fault = kind;
            place = tokens.from;
            return false;
        }
    }

    /** A TRAIN as it is now, with the changes that can be taken back; without LINES there is none. */
    private static final class Train {
        static final int COACHES = 0;
        static final int MINUTES = 1;
        static final int EVERY = 2;
        static final int FARE = 3;
        static final int FINE = 4;
        static final int INSPECTORS = 5;
        static final int RIDERS = 6;
        static final int LINES = 7;
        static final int HEAD_WIDTH = 8;

        static final int PEOPLE = 0;
        static final int LOO = 1;
        static final int DOORS = 2;
        static final int COACH_WIDTH = 3;
        /** A change's kind beside those of a COACH. */
        static final int SENT = 3;
        static final int CHANGE_WIDTH = 3;

        static final int COACH = 0;
        static final int WAY = 1;
        static final int PACE = 2;
        static final int KNOCKS = 3;
        static final int TURNS = 4;
        static final int INSPECTOR_WIDTH = 5;

        static final int RULE = 1;
        static final int SEES = 2;
        static final int LOOKS = 3;
        static final int TICKET = 4;
        static final int RIDER_WIDTH = 5;

        final int[] head = new int[HEAD_WIDTH];
        final int[] coachRows = new int[MOST_COACHES * COACH_WIDTH];
        final int[] inspectorRows = new int[MOST_INSPECTORS * INSPECTOR_WIDTH];
        final int[] riderRows = new int[MOST_RIDERS * RIDER_WIDTH];
        final int[] odds = new int[DAYS];
        final int[] changes = new int[MOST_CHANGES * CHANGE_WIDTH];
        int changeCount;
        boolean kept;

        void clear() {
            Arrays.fill(head, 0);
            Arrays.fill(coachRows, 0);
            Arrays.fill(inspectorRows, 0);
            Arrays.fill(riderRows, 0);
            Arrays.fill(odds, 0);
            changeCount = 0;
        }

        void takeFrom(Train other) {
            System.arraycopy(other.head, 0, head, 0, head.length);
            System.arraycopy(other.coachRows, 0, coachRows, 0, coachRows.length);
            System.arraycopy(other.inspectorRows, 0, inspectorRows, 0, inspectorRows.length);
            System.arraycopy(other.riderRows, 0, riderRows, 0, riderRows.length);
            System.arraycopy(other.odds, 0, odds, 0, odds.length);
            System.arraycopy(other.changes, 0, changes, 0, changes.length);
            changeCount = other.changeCount;
        }

        int lines() {
            return head[LINES];
        }

        boolean stands() {
            return head[LINES] > 0;
        }

        int coaches() {
            return head[COACHES];
        }

        int minutes() {
            return head[MINUTES];
        }

        int inspectors() {
            return head[INSPECTORS];
        }

        int riders() {
            return head[RIDERS];
        }

        int beginCount() {
            return 2 * head[COACHES];
        }

        int fare() {
            return head[FARE];
        }

        int fineSum() {
            return head[FINE];
        }

        boolean hasCoach(int coach) {
            return coach >= 0 && coach < head[COACHES];
        }

        boolean hasMinute(int minute) {
            return minute >= 0 && minute < head[MINUTES];
        }

        boolean hasInspector(int inspector) {
            return inspector >= 0 && inspector < head[INSPECTORS];
        }

        boolean hasRider(int rider) {
            return rider >= 0 && rider < head[RIDERS];
        }

        boolean hasBegin(int begin) {
            return begin >= 0 && begin < beginCount();
        }

        boolean hasDay(int day) {
            return stands() && day >= 0 && day < DAYS;
        }

        boolean hasTicket(int rider) {
            return ofRider(rider, TICKET) == 1;
        }

        int allCoaches() {
            return (1 << head[COACHES]) - 1;
        }

        int looBits() {
            return markBits(LOO);
        }

        int doorBits() {
            return markBits(DOORS);
        }

        private int markBits(int what) {
            int bits = 0;
            for (int c = 0; c < head[COACHES]; c++) {
                if (ofCoach(c, what) == 1) {
                    bits |= 1 << c;
                }
            }
            return bits;
        }

        boolean isStop(int minute) {
            return minute > 0 && head[EVERY] > 0 && minute % head[EVERY] == 0;
        }

        int stayIn(int coach, int pace) {
            return pace > 0 ? 1 + ofCoach(coach, PEOPLE) / pace : 1;
        }

        int ofCoach(int coach, int what) {
            return coachRows[coach * COACH_WIDTH + what];
        }

        int ofInspector(int inspector, int what) {
            return inspectorRows[inspector * INSPECTOR_WIDTH + what];
        }

        int ofRider(int rider, int what) {
            return riderRows[rider * RIDER_WIDTH + what];
        }

        int beginOf(int inspector) {
            return 2 * ofInspector(inspector, COACH) + ofInspector(inspector, WAY);
        }

        void putCoach(int coach, int what, int n) {
            coachRows[coach * COACH_WIDTH + what] = n;
        }

        void putInspector(int inspector, int what, int n) {
            inspectorRows[inspector * INSPECTOR_WIDTH + what] = n;
        }

        void putRider(int rider, int what, int n) {
            riderRows[rider * RIDER_WIDTH + what] = n;
        }

        void putBegin(int inspector, int begin) {
            putInspector(inspector, COACH, begin / 2);
            putInspector(inspector, WAY, begin % 2);
        }

        /** Keeps what was there ahead of a change; there must be room for one more. */
        void remember(int kind, int index, int old) {
            int from = changeCount * CHANGE_WIDTH;
            changes[from] = kind;
            changes[from + 1] = index;
            changes[from + 2] = old;
            changeCount++;
        }

        /** Takes the latest change back; there must be one. */
        void takeBack() {
            changeCount--;
            int from = changeCount * CHANGE_WIDTH;
            if (changes[from] == SENT) {
                putBegin(changes[from + 1], changes[from + 2]);
            } else {
                putCoach(changes[from + 1], changes[from], changes[from + 2]);
            }
        }
    }

    /** In which COACH an INSPECTOR is in each MINUTE, NONE when it is gone. */
    private static final class Course {
        final int[] spots = new int[MOST_MINUTES];

        void follow(Train train, int inspector, int begin) {
            int pace = train.ofInspector(inspector, Train.PACE);
            boolean turns = train.ofInspector(inspector, Train.TURNS) == 1;
            int spot = begin / 2;
            int way = begin % 2 == 0 ? 1 : -1;
            int left = train.stayIn(spot, pace);
            for (int m = 0; m < train.minutes(); m++) {
                if (spot != NONE && left == 0) {
                    if (turns && !train.hasCoach(spot + way)) {
                        way = -way;
                    }
                    spot = train.hasCoach(spot + way) ? spot + way : NONE;
                    left = spot == NONE ? 0 : train.stayIn(spot, pace);
                }
                spots[m] = spot;
                left--;
            }
        }

        void takeFrom(Course other) {
            System.arraycopy(other.spots, 0, spots, 0, spots.length);
        }

        boolean arrives(int coach, int minute) {
            return spots[minute] == coach && (minute == 0 || spots[minute - 1] != coach);
        }

        boolean swaps(int from, int to, int minute) {
            return minute > 0 && spots[minute - 1] == to && spots[minute] == from;
        }
    }

    /** Where a RIDER is in each MINUTE by a RULE, and when he is HAD first. */
    private static final class Ride {
        static final int STAY = 0;
        static final int FORWARD = 1;
        static final int HIDE = 2;
        static final int ROUND = 3;

        /** COACHES, and LOOS as the COACH and Chase.LOOS_FROM. */
        final int[] places = new int[MOST_MINUTES];
        final Train train;
        final Course[] courses;
        int inspectors;
        int sees;
        int caughtIn;
        int caughtBy;

        Ride(Train train, Course[] courses) {
            this.train = train;
            this.courses = courses;
        }

        /** Goes the whole way, by the courses of so many INSPECTORS, which must stand already. */
        void travel(int rider, int rule, int inspectors) {
            this.inspectors = inspectors;
            sees = train.ofRider(rider, Train.SEES);
            caughtIn = NONE;
            caughtBy = NONE;
            int place = train.ofRider(rider, Train.COACH);
            for (int m = 0; m < train.minutes(); m++) {
                places[m] = place;
                lookForCatch(m);
                place = placeAfter(place, rule, m);
            }
        }

        int coachIn(int minute) {
            return places[minute] % Chase.LOOS_FROM;
        }

        boolean inLoo(int minute) {
            return places[minute] >= Chase.LOOS_FROM;
        }

        /** Whether an INSPECTOR has him in a MINUTE outside the LOO. */
        boolean meets(int inspector, int minute) {
            if (courses[inspector].spots[minute] == coachIn(minute)) {
                return true;
            }
            if (minute == 0) {
                return false;
            }
            int from = coachIn(minute - 1);
            int to = coachIn(minute);
            return Math.abs(from - to) == 1 && courses[inspector].swaps(from, to, minute);
        }

        private void lookForCatch(int minute) {
            for (int i = 0; i < inspectors && caughtIn == NONE; i++) {
                boolean met;
                if (inLoo(minute)) {
                    boolean knocks = train.ofInspector(i, Train.KNOCKS) > 0;
                    met = knocks && courses[i].spots[minute] == coachIn(minute);
                } else {
                    met = meets(i, minute);
                }
                if (met) {
                    caughtIn = minute;
                    caughtBy = i;
                }
            }
        }

        private int placeAfter(int place, int rule, int minute) {
            switch (rule) {
                case FORWARD:
                    return forwardFrom(place, minute);
                case HIDE:
                    return hideFrom(place, minute);
                case ROUND:
                    return roundFrom(place, minute);
                default:
                    return place;
            }
        }

        private int forwardFrom(int coach, int minute) {
            int seen = nearestSeen(coach, minute);
            if (seen == NONE) {
                return coach;
            }
            int next = seen > coach ? coach - 1 : coach + 1;
            return train.hasCoach(next) ? next : coach;
        }

        private int hideFrom(int place, int minute) {
            int coach = place % Chase.LOOS_FROM;
            boolean hides = train.ofCoach(coach, Train.LOO) == 1 && nearestSeen(coach, minute) != NONE;
            return hides ? coach + Chase.LOOS_FROM : coach;
        }

        private int roundFrom(int coach, int minute) {
            if (!train.isStop(minute) || train.ofCoach(coach, Train.DOORS) == 0) {
                return coach;
            }
            int best = coach;
            int farthest = farness(coach, minute);
            for (int c = 0; c < train.coaches(); c++) {
                if (train.ofCoach(c, Train.DOORS) == 1 && farness(c, minute) > farthest) {
                    best = c;
                    farthest = farness(c, minute);
                }
            }
            return best;
        }

        /** The COACH of the nearest INSPECTOR in sight, the lesser of like ones, or NONE. */
        private int nearestSeen(int coach, int minute) {
            int best = NONE;
            int nearest = sees + 1;
            for (int i = 0; i < inspectors; i++) {
                int spot = courses[i].spots[minute];
                int far = Math.abs(spot - coach);
                if (spot != NONE && (far < nearest || (far == nearest && spot < best))) {
                    best = spot;
                    nearest = far;
                }
            }
            return best;
        }

        /** How far the nearest INSPECTOR in the train is from a COACH, NONE without any. */
        private int farness(int coach, int minute) {
            int nearest = NONE;
            for (int i = 0; i < inspectors; i++) {
                int spot = courses[i].spots[minute];
                int far = Math.abs(spot - coach);
                if (spot != NONE && (nearest == NONE || far < nearest)) {
                    nearest = far;
                }
            }
            return nearest;
        }
    }

    /**
     * Where one is HAD, and where he can stay UNCAUGHT. Sets of PLACES are bits: COACHES from bit 0
     * on, LOOS from bit LOOS_FROM on.
     */
    private static final class Chase {
        static final int LOOS_FROM = 8;
        static final int PLACES = 16;
        static final int TOO_DEAR = 1000;

        final int[] guarded = new int[MOST_MINUTES];
        final int[] knocked = new int[MOST_MINUTES];
        /** COACHES from which the way up (down) out of a MINUTE runs into an INSPECTOR. */
        final int[] upMet = new int[MOST_MINUTES];
        final int[] downMet = new int[MOST_MINUTES];
        final int[] open = new int[MOST_MINUTES];
        final int[] costs = new int[PLACES];
        final int[] later = new int[PLACES];
        final Train train;
        int minutes;
        int all;
        int loos;
        int doors;

        Chase(Train train) {
            this.train = train;
        }

        /** Begins anew with the TRAIN as it is, without INSPECTORS. */
        void restart() {
            minutes = train.minutes();
            all = train.allCoaches();
            loos = train.looBits();
            doors = train.doorBits();
            Arrays.fill(guarded, 0);
            Arrays.fill(knocked, 0);
            Arrays.fill(upMet, 0);
            Arrays.fill(downMet, 0);
        }

        void add(Course course, boolean knocks) {
            for (int m = 0; m < minutes; m++) {
                int spot = course.spots[m];
                if (spot == NONE) {
                    continue;
                }
                guarded[m] |= 1 << spot;
                if (knocks) {
                    knocked[m] |= 1 << spot;
                }
                int before = m == 0 ? NONE : course.spots[m - 1];
                if (before != NONE && before == spot + 1) {
                    upMet[m - 1] |= 1 << spot;
                }
                if (before != NONE && before == spot - 1) {
                    downMet[m - 1] |= 1 << spot;
                }
            }
        }

        /** Becomes the chase by the INSPECTORS of both. */
        void join(Chase one, Chase other) {
            minutes = one.minutes;
            all = one.all;
            loos = one.loos;
            doors = one.doors;
            for (int m = 0; m < minutes; m++) {
                guarded[m] = one.guarded[m] | other.guarded[m];
                knocked[m] = one.knocked[m] | other.knocked[m];
                upMet[m] = one.upMet[m] | other.upMet[m];
                downMet[m] = one.downMet[m] | other.downMet[m];
            }
        }

        /** Finds the PLACES from which one can, MINUTE by MINUTE from the END: the COACHES of MINUTE 0. */
        int solve() {
            int last = minutes - 1;
            int seats = all;
            int cabins = loos;
            for (int m = last; m >= 0; m--) {
                int reach = seats;
                int platform = 0;
                if (m < last) {
                    reach |= (seats >> 1) & ~upMet[m];
                    reach |= (seats << 1) & ~downMet[m];
                    platform = train.isStop(m) && (seats & doors) != 0 ? doors : 0;
                }
                seats = (reach | cabins | platform) & all & ~guarded[m];
                cabins = (reach | cabins) & loos & ~knocked[m];
                open[m] = seats | (cabins << LOOS_FROM);
            }
            return seats;
        }

        boolean isOpen(int place, int minute) {
            return (open[minute] >> place & 1) == 1;
        }

        /** The given COACHES less those in which one is HAD in MINUTE 0. */
        int outset(int coaches) {
            return coaches & ~guarded[0];
        }

        /** The PLACES of the next MINUTE to which one comes UNCAUGHT; behind the last MINUTE all stay. */
        int onward(int places, int minute) {
            if (minute + 1 >= minutes) {
                return places;
            }
            int seats = places & all;
            int cabins = places >> LOOS_FROM;
            int from = seats | cabins;
            int reach = from | ((from & ~upMet[minute]) << 1) | ((from & ~downMet[minute]) >> 1);
            if (train.isStop(minute) && (seats & doors) != 0) {
                reach |= doors;
            }
            int hidden = cabins | (seats & loos);
            seats = reach & all & ~guarded[minute + 1];
            cabins = hidden & ~knocked[minute + 1];
            return seats | (cabins << LOOS_FROM);
        }

        /** The PLACE to which a STEP leads from which one can go on, or NONE; solve() comes ahead. */
        int goal(int place, int step, int minute) {
            int next = target(place, step, minute);
            boolean good = next != NONE && minute + 1 < minutes && isOpen(next, minute + 1);
            return good ? next : NONE;
        }

        private int target(int place, int step, int minute) {
            int coach = place % LOOS_FROM;
            boolean inLoo = place >= LOOS_FROM;
            switch (step) {
                case 0:
                    return place;
                case 1:
                    return train.hasCoach(coach + 1) && (upMet[minute] >> coach & 1) == 0 ? coach + 1 : NONE;
                case 2:
                    return train.hasCoach(coach - 1) && (downMet[minute] >> coach & 1) == 0 ? coach - 1 : NONE;
                case 3:
                    return inLoo ? coach : coach + LOOS_FROM;
                default:
                    return inLoo ? NONE : byPlatform(coach, step - 4, minute);
            }
        }

        private int byPlatform(int coach, int to, int minute) {
            boolean goes = train.isStop(minute) && coach != to && train.hasCoach(to);
            return goes && (doors >> coach & 1) == 1 && (doors >> to & 1) == 1 ? to : NONE;
        }

        /** The least STEP after which one can go on, from a PLACE from which one can. */
        int leastStep(int place, int minute) {
            for (int step = 0; step < STEPS; step++) {
                if (goal(place, step, minute) != NONE) {
                    return step;
                }
            }
            return 0;
        }

        /** The fewest STEPS but 0 from a COACH to the END, or NONE; solve() comes ahead. */
        int fewestSteps(int coach) {
            Arrays.fill(costs, 0);
            for (int m = minutes - 2; m >= 0; m--) {
                System.arraycopy(costs, 0, later, 0, PLACES);
                for (int place = 0; place < PLACES; place++) {
                    costs[place] = isOpen(place, m) ? cheapest(place, m) : TOO_DEAR;
                }
            }
            return isOpen(coach, 0) ? costs[coach] : NONE;
        }

        private int cheapest(int place, int minute) {
            int least = TOO_DEAR;
            for (int step = 0; step < STEPS; step++) {
                int next = goal(place, step, minute);
                if (next != NONE) {
                    least = Math.min(least, later[next] + (step == 0 ? 0 : 1));
                }
            }
            return least;
        }
    }

    /** The fewest INSPECTORS like INSPECTOR 0 that surely have everybody; kept until the TRAIN changes. */
    private static final class Hunt {
        final Chase[] single = new Chase[MOST_BEGINS];
        final Chase pair;
        final Chase trio;
        final int[] picks = new int[MOST_INSPECTORS];
        final Train train;
        int begins;
        int size;
        boolean known;

        Hunt(Train train) {
            this.train = train;
            pair = new Chase(train);
            trio = new Chase(train);
            for (int b = 0; b < MOST_BEGINS; b++) {
                single[b] = new Chase(train);
            }
        }

        void forget() {
            known = false;
        }

        /** Seeks by the course of each BEGIN, which must stand already. */
        void seek(Course[] courses) {
            known = true;
            begins = train.beginCount();
            boolean knocks = train.ofInspector(0, Train.KNOCKS) > 0;
            for (int b = 0; b < begins; b++) {
                single[b].restart();
                single[b].add(courses[b], knocks);
            }
            // Nobody is HAD without an INSPECTOR, so one is the fewest there can be.
            if (seekOne()) {
                size = 1;
            } else if (seekTwo()) {
                size = 2;
            } else if (seekThree()) {
                size = 3;
            } else {
                size = NONE;
            }
        }

        private boolean seekOne() {
            for (int a = 0; a < begins; a++) {
                picks[0] = a;
                if (single[a].solve() == 0) {
                    return true;
                }
            }
            return false;
        }

        private boolean seekTwo() {
            for (int a = 0; a < begins; a++) {
                picks[0] = a;
                if (seekLast(single[a], pair, a, 1)) {
                    return true;
                }
            }
            return false;
        }

        private boolean seekThree() {
            for (int a = 0; a < begins; a++) {
                picks[0] = a;
                for (int b = a; b < begins; b++) {
                    picks[1] = b;
                    pair.join(single[a], single[b]);
                    if (seekLast(pair, trio, b, 2)) {
                        return true;
                    }
                }
            }
            return false;
        }

        /** Whether one INSPECTOR more, from a BEGIN on, makes the chase whole; it is the pick there. */
        private boolean seekLast(Chase others, Chase whole, int from, int index) {
            for (int b = from; b < begins; b++) {
                whole.join(others, single[b]);
                if (whole.solve() == 0) {
                    picks[index] = b;
                    return true;
                }
            }
            return false;
        }
    }

    /** The DRAWS from a seed. */
    private static final class Draws {
        private static final long FACTOR = 1103515245L;
        private static final long PLUS = 12345L;
        private static final long MASK = 2147483647L;

        private long x;

        void start(int seed) {
            x = seed;
        }

        int draw() {
            x = (FACTOR * x + PLUS) & MASK;
            return (int) (x / 65536 % 100);
        }
    }

    /** A SLOT: a row of numbers of one WIDTH, or nothing. */
    private static final class Row {
        static final int MOST = 60;
        static final int MOST_WIDTH = 3;

        final long[] numbers = new long[MOST];
        boolean laid;
        int width;
        int size;

        void lay(int width, int n) {
            laid = true;
            this.width = width;
            size = n;
            Arrays.fill(numbers, 0L);
        }

        boolean hasNumber(int i) {
            return i >= 0 && i < size;
        }

        boolean hasRun(int i, int n) {
            return i >= 0 && n >= 0 && i <= size && n <= size - i;
        }

        void put(int i, long v) {
            switch (width) {
                case 0:
                    numbers[i] = (byte) v;
                    break;
                case 1:
                    numbers[i] = (short) v;
                    break;
                case 2:
                    numbers[i] = (int) v;
                    break;
                default:
                    numbers[i] = v;
                    break;
            }
        }
    }
}
