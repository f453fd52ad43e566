import java.lang.reflect.Method;
import java.util.ArrayList;
import java.util.Arrays;
import java.util.List;
import java.util.Set;
import java.util.TreeSet;
import java.util.function.Supplier;

/**
 * Each argument of each method, promise by promise: the last values that are allowed and the first that are
 * not, on each side; what a refused call answers; and that it leaves everything else as it was.
 */
public final class RefusedTest {
    private static final Checks CHECKS = new Checks();
    private static final int MIN = Integer.MIN_VALUE;
    private static final int MAX = Integer.MAX_VALUE;

    /** An argument's least and greatest value, and what one below and one above is answered by. */
    record Arg(int least, int most, int below, int above) { }

    record Call(String name, Arg... args) { }

    private static Arg arg(int least, int most) {
        return new Arg(least, most, -2, -2);
    }

    private static Arg none(int least, int most) {
        return new Arg(least, most, -1, -1);
    }

    // Full: 4 COACHES, 8 MINUTES, 2 INSPECTORS, 3 RIDERS, 20 bytes, fewest() is 1.
    private static final Arg COACH = arg(0, 3);
    private static final Arg MINUTE = arg(0, 7);
    private static final Arg INSPECTOR = arg(0, 1);
    private static final Arg RIDER = arg(0, 2);
    private static final Arg DAY = arg(0, 6);
    private static final Arg BEGIN = arg(0, 7);
    private static final Arg RULE = arg(0, 3);
    private static final Arg ASKED = arg(0, 6);
    private static final Arg SEED = arg(0, 2000000000);

    private static final Call[] OF_THE_TRAIN = {
        new Call("coach", COACH, arg(0, 2)), new Call("inspector", INSPECTOR, arg(0, 4)),
        new Call("rider", RIDER, arg(0, 4)), new Call("day", DAY), new Call("stop", MINUTE),
        new Call("at", INSPECTOR, MINUTE), new Call("stays", INSPECTOR, COACH), new Call("comes", INSPECTOR, COACH),
        new Call("watched", MINUTE), new Call("never"), new Call("where", RIDER, MINUTE), new Call("had", RIDER),
        new Call("by", RIDER), new Call("fined"), new Call("brings"), new Call("walks", RIDER),
        new Call("can", COACH, arg(0, 1), MINUTE), new Call("safe"), new Call("path", COACH, none(0, 6)),
        new Call("effort", COACH), new Call("lasts", COACH), new Call("room", MINUTE), new Call("fewest"),
        new Call("begins", none(0, 0)), new Call("leaves", BEGIN), new Call("begin"),
        new Call("table", RIDER, RULE, BEGIN), new Call("reply", RIDER, BEGIN), new Call("answer", RIDER, RULE),
        new Call("rests", RIDER), new Call("rest", RIDER), new Call("sure", RIDER), new Call("ask", ASKED),
        new Call("found", ASKED), new Call("asks"), new Call("dodges", RIDER, DAY), new Call("week", RIDER),
        new Call("fine", RIDER, DAY), new Call("often", RIDER), new Call("mean", RIDER, arg(0, 1)),
        new Call("learns", RIDER, arg(0, 7)), new Call("sighted", arg(0, 2)), new Call("told", arg(0, 2)),
        new Call("may", arg(0, 2), MINUTE), new Call("look", arg(0, 2)), new Call("matters", arg(0, 1)),
        new Call("doors", arg(0, 15)), new Call("loo"), new Call("set", COACH, arg(0, 0), arg(0, 99)),
        new Call("set", COACH, arg(1, 2), arg(0, 1)), new Call("send", INSPECTOR, BEGIN), new Call("undo"),
        new Call("drawn", SEED, RIDER), new Call("trips", SEED, arg(1, 20), RIDER),
    };

    private static final Call[] OF_THE_OBJECT = {
        new Call("end", none(0, 20)), new Call("fault", none(0, 1)), new Call("count", none(0, 10)),
        new Call("image", arg(0, 2)), new Call("back", arg(0, 0)),
        new Call("row", arg(0, 3), arg(0, 3), new Arg(0, 60, -3, -2)),
        new Call("write", arg(0, 2), new Arg(0, 3, -7, -7), new Arg(MIN, MAX, 0, 0)),
        new Call("paste", arg(0, 1), new Arg(0, 0, -7, -7), arg(0, 1), new Arg(0, 0, -7, -7), new Arg(4, 4, 0, -7)),
    };

    /** What a call with another SLOT, IMAGE, what than those of the table answers, where that is not -2. */
    private static boolean isElsewhere(Call call, int k, int value) {
        switch (call.name) {
            case "sighted", "told", "may", "look", "write":
                return k == 0 && value == 3;
            case "paste":
                return k % 2 == 0 && (value == 2 || value == 3 && k < 4);
            case "set":
                return k == 1 && value >= 0 && value <= 2 || k == 2 && value == 2 && call.args[1].least == 0;
            case "back":
                return value == 1 || value == 2;
            default:
                return false;
        }
    }

    private static CoachAhead full() {
        CoachAhead x = new CoachAhead();
        Checks.type(x, "train coaches 4 minutes 8 every 3 fare 3 fine 60; coach 0 people 5 doors loo;"
            + "coach 1 people 2 loo; coach 2 people 1 loo doors; coach 3 people 0 loo doors;"
            + "inspector at 2 up pace 10 knocks 7; inspector at 3 up pace 20; rider in 2 forward sees 1 looks 30;"
            + "rider in 1 loo sees 1 looks 50 ticket; rider in 0 round sees 0 looks 50; day 1 odds 5;");
        x.train();
        x.set(1, 0, 3);
        x.send(1, 6);
        x.image(0);
        x.set(0, 0, 6);
        for (int s = 0; s < 3; s++) {
            x.row(s, s < 2 ? 1 : 3, 4);
            for (int i = 0; i < 4; i++) {
                x.write(s, i, i % 2 == 0 ? i : s);
            }
        }
        Checks.type(x, "train coaches 9");
        x.train();
        Checks.type(x, "train coaches 4    ;");
        return x;
    }

    private static CoachAhead bare() {
        CoachAhead x = Checks.of("train coaches 4 minutes 8 every 3 fare 3 fine 60; coach 1 people 20 loo;");
        x.set(0, 0, 6);
        x.row(0, 0, 4);
        return x;
    }

    private static CoachAhead changedSixtyTimes() {
        CoachAhead x = full();
        for (int i = 3; i < 60; i++) {
            x.set(0, 0, i);
        }
        return x;
    }

    public static void main(String[] args) throws Exception {
        wholeFace();
        allowed();
        refused(OF_THE_TRAIN, RefusedTest::full);
        refused(OF_THE_OBJECT, RefusedTest::full);
        for (Supplier<CoachAhead> state : List.<Supplier<CoachAhead>>of(CoachAhead::new, RefusedTest::goneTrain)) {
            for (Call call : OF_THE_TRAIN) {
                refusedFor(call, state, valid(call, 0), -2);
                refusedFor(call, state, valid(call, (1 << call.args.length) - 1), -2);
            }
        }
        withoutInspectorsAndRiders();
        nothingThere();
        sixtyChanges();
        CHECKS.close("RefusedTest");
    }

    private static CoachAhead goneTrain() {
        CoachAhead x = Checks.of(Trains.FOUR);
        x.train();
        return x;
    }

    private static void wholeFace() {
        Set<String> told = new TreeSet<>(List.of("feed", "train"));
        for (Call call : OF_THE_TRAIN) {
            told.add(call.name);
        }
        for (Call call : OF_THE_OBJECT) {
            told.add(call.name);
        }
        CHECKS.due("methods that the table has", told.size(), 63);
    }

    private static Method method(Call call) {
        for (Method method : CoachAhead.class.getDeclaredMethods()) {
            if (method.getName().equals(call.name) && method.getParameterCount() == call.args.length) {
                return method;
            }
        }
        throw new IllegalStateException("no method " + call.name);
    }

    private static int ask(CoachAhead x, Call call, int[] values) throws Exception {
        Method method = method(call);
        Object[] given = new Object[values.length];
        for (int k = 0; k < values.length; k++) {
            given[k] = method.getParameterTypes()[k] == long.class ? (Object) (long) values[k] : (Object) values[k];
        }
        return (Integer) method.invoke(x, given);
    }

    /** Allowed values: bit k chooses the greatest of argument k. */
    private static int[] valid(Call call, int bits) {
        int[] values = new int[call.args.length];
        for (int k = 0; k < values.length; k++) {
            values[k] = (bits >> k & 1) == 1 ? call.args[k].most : call.args[k].least;
        }
        return values;
    }

    private static void allowed() throws Exception {
        for (Call[] calls : List.of(OF_THE_TRAIN, OF_THE_OBJECT)) {
            for (Call call : calls) {
                for (int bits = 0; bits < 1 << call.args.length; bits++) {
                    int[] values = valid(call, bits);
                    int answer = ask(full(), call, values);
                    CHECKS.holds(call.name + Arrays.toString(values) + " is allowed, answered " + answer, answer >= -1);
                }
            }
        }
        for (int i = 0; i <= 6; i++) {
            CHECKS.holds("path(1, " + i + ")", full().path(1, i) >= 0);
        }
        CHECKS.due("fewest()", full().fewest(), 1);
        CHECKS.holds("begins(0)", full().begins(0) >= 0);
        CHECKS.due("end(20)", full().end(20), 20);
        CHECKS.due("fault(1)", full().fault(1), 14);
    }

    private static void refused(Call[] calls, Supplier<CoachAhead> state) throws Exception {
        for (Call call : calls) {
            for (int k = 0; k < call.args.length; k++) {
                Arg arg = call.args[k];
                for (int bits = 0; bits < 1 << call.args.length; bits++) {
                    List<Integer> wrong = new ArrayList<>();
                    if (arg.below < 0) {
                        wrong.addAll(List.of(MIN, MIN + 1, arg.least - 1));
                    }
                    if (arg.above < 0) {
                        wrong.addAll(List.of(arg.most + 1, MAX - 1, MAX));
                    }
                    for (int value : wrong) {
                        int[] values = valid(call, bits);
                        values[k] = value;
                        if (!isElsewhere(call, k, value)) {
                            refusedFor(call, state, values, value < arg.least ? arg.below : arg.above);
                        }
                    }
                }
            }
        }
    }

    private static void refusedFor(Call call, Supplier<CoachAhead> state, int[] values, int due) throws Exception {
        CoachAhead x = state.get();
        CHECKS.due(call.name + Arrays.toString(values), ask(x, call, values), due);
        CHECKS.holds("all stays after " + call.name + Arrays.toString(values),
            Whole.of(x).equals(Whole.of(state.get())));
    }

    private static void withoutInspectorsAndRiders() throws Exception {
        Set<String> ofOthers = new TreeSet<>(List.of("coach", "day", "stop", "watched", "never", "fined", "brings", "can",
            "safe", "path", "effort", "lasts", "room", "ask", "found", "asks", "matters", "doors", "loo", "set", "undo"));
        for (Call call : OF_THE_TRAIN) {
            if (!ofOthers.contains(call.name)) {
                refusedFor(call, RefusedTest::bare, valid(call, 0), -2);
            } else if (!call.name.equals("can")) {
                int answer = ask(bare(), call, valid(call, 0));
                CHECKS.holds(call.name + " needs nobody, answered " + answer, answer >= -1);
            }
        }
        CHECKS.due("can(1, 1, 7) needs nobody", bare().can(1, 1, 7), 1);
        refusedFor(new Call("can", COACH, COACH, COACH), RefusedTest::bare, new int[] {0, 1, 0}, -2);
    }

    private static void nothingThere() throws Exception {
        Arg any = arg(0, 0);
        for (String name : List.of("sighted", "told", "look")) {
            refusedFor(new Call(name, any), RefusedTest::full, new int[] {3}, -6);
        }
        refusedFor(new Call("may", any, any), RefusedTest::full, new int[] {3, 0}, -6);
        refusedFor(new Call("write", any, any, any), RefusedTest::full, new int[] {3, 0, 0}, -6);
        refusedFor(new Call("back", any), RefusedTest::full, new int[] {1}, -6);
        refusedFor(new Call("back", any), RefusedTest::full, new int[] {2}, -6);
        Call paste = new Call("paste", any, any, any, any, any);
        refusedFor(paste, RefusedTest::full, new int[] {3, 0, 0, 0, 1}, -6);
        refusedFor(paste, RefusedTest::full, new int[] {0, 0, 3, 0, 1}, -6);
        refusedFor(paste, RefusedTest::full, new int[] {3, 0, 3, 0, 0}, -6);
        refusedFor(paste, RefusedTest::full, new int[] {2, 0, 0, 0, 1}, -8);
        refusedFor(paste, RefusedTest::full, new int[] {0, 0, 2, 0, 0}, -8);
        int[][] beyond = {{0, 1, 1, 0, 4}, {0, 0, 1, 1, 4}, {0, 4, 1, 0, 1}, {0, 0, 1, 4, 1}, {0, 0, 1, 0, 5},
            {0, 5, 1, 0, 0}, {0, 0, 1, 5, 0}, {0, -1, 1, 0, 1}, {0, 0, 1, -1, 1}, {0, 0, 1, 0, -1}, {0, -1, 1, 0, 0},
            {0, 0, 1, -1, 0}, {0, 1, 1, 1, MAX}, {0, MAX, 1, 0, MAX}, {0, 0, 1, MAX, MAX}, {0, 0, 0, 1, 4}, {0, 2, 0, 0, 3}};
        for (int[] values : beyond) {
            refusedFor(paste, RefusedTest::full, values, -7);
        }
    }

    private static void sixtyChanges() throws Exception {
        Call set = new Call("set", COACH, COACH, COACH);
        Call send = new Call("send", INSPECTOR, BEGIN);
        CHECKS.due("changes", changedSixtyTimes().count(9), 60);
        refusedFor(set, RefusedTest::changedSixtyTimes, new int[] {0, 0, 9}, -5);
        refusedFor(set, RefusedTest::changedSixtyTimes, new int[] {3, 2, 0}, -5);
        refusedFor(send, RefusedTest::changedSixtyTimes, new int[] {0, 7}, -5);
        refusedFor(set, RefusedTest::changedSixtyTimes, new int[] {4, 0, 9}, -2);
        refusedFor(set, RefusedTest::changedSixtyTimes, new int[] {0, 1, 2}, -2);
        refusedFor(send, RefusedTest::changedSixtyTimes, new int[] {2, 0}, -2);
        refusedFor(send, RefusedTest::changedSixtyTimes, new int[] {0, 8}, -2);
    }
}
