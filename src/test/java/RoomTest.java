import java.lang.management.ManagementFactory;
import java.lang.reflect.Array;
import java.lang.reflect.Field;
import java.lang.reflect.Modifier;
import java.util.ArrayDeque;
import java.util.Collections;
import java.util.Deque;
import java.util.IdentityHashMap;
import java.util.Set;

/** What an object holds, and that no call makes more: all calls of one run live in one room. */
public final class RoomTest {
    private static final Checks CHECKS = new Checks();
    private static final int MOST_OBJECTS = 400;
    private static final int MOST_ELEMENTS = 12000;

    public static void main(String[] args) throws Exception {
        CoachAhead x = new CoachAhead();
        long[] fresh = sizes(x);
        CHECKS.holds("objects of a new one: " + fresh[0], fresh[0] <= MOST_OBJECTS);
        CHECKS.holds("fields and elements of a new one: " + fresh[1], fresh[1] <= MOST_ELEMENTS);
        use(x);
        long[] used = sizes(x);
        CHECKS.due("objects of a used one", used[0], fresh[0]);
        CHECKS.due("fields and elements of a used one", used[1], fresh[1]);
        callsMakeNothing();
        CHECKS.close("RoomTest");
    }

    private static long[] sizes(Object root) throws IllegalAccessException {
        Set<Object> seen = Collections.newSetFromMap(new IdentityHashMap<>());
        Deque<Object> open = new ArrayDeque<>();
        seen.add(root);
        open.add(root);
        long elements = 0;
        while (!open.isEmpty()) {
            Object o = open.remove();
            if (o.getClass().isArray()) {
                int n = Array.getLength(o);
                elements += n;
                for (int i = 0; i < n && !o.getClass().getComponentType().isPrimitive(); i++) {
                    visit(Array.get(o, i), seen, open);
                }
                continue;
            }
            for (Field field : o.getClass().getDeclaredFields()) {
                if (!Modifier.isStatic(field.getModifiers())) {
                    elements++;
                    field.setAccessible(true);
                    if (!field.getType().isPrimitive()) {
                        visit(field.get(o), seen, open);
                    }
                }
            }
        }
        return new long[] {seen.size(), elements};
    }

    private static void visit(Object o, Set<Object> seen, Deque<Object> open) {
        if (o != null && seen.add(o)) {
            open.add(o);
        }
    }

    private static void callsMakeNothing() {
        if (!(ManagementFactory.getThreadMXBean() instanceof com.sun.management.ThreadMXBean meter)) {
            return;
        }
        CoachAhead x = new CoachAhead();
        // The machine itself makes some objects when it comes to a method for the first time.
        for (int i = 0; i < 20; i++) {
            use(x);
        }
        long before = meter.getCurrentThreadAllocatedBytes();
        long after = meter.getCurrentThreadAllocatedBytes();
        long metering = after - before;
        before = meter.getCurrentThreadAllocatedBytes();
        for (int i = 0; i < 20; i++) {
            use(x);
        }
        after = meter.getCurrentThreadAllocatedBytes();
        CHECKS.holds("bytes that calls made: " + (after - before), after - before <= metering + 1000);
    }

    /** Each method, with a full TRAIN. */
    private static int use(CoachAhead x) {
        int sum = 0;
        for (int i = 0; i + 20 <= WORDS.length * 4; i += 20) {
            int w = i / 4;
            sum += x.feed(WORDS[w], WORDS[w + 1], WORDS[w + 2], WORDS[w + 3], WORDS[w + 4]);
        }
        sum += x.end(x.count(8)) + x.train() + x.fault(0) + x.coach(0, 0) + x.inspector(0, 0) + x.rider(0, 0) + x.day(0);
        sum += x.stop(1) + x.at(0, 1) + x.stays(0, 1) + x.comes(0, 1) + x.watched(1) + x.never() + x.where(0, 1) + x.had(0);
        sum += x.by(0) + x.fined() + x.brings() + x.walks(0) + x.can(0, 0, 0) + x.safe() + x.path(1, 1) + x.effort(1);
        sum += x.lasts(1) + x.room(1) + x.fewest() + x.begins(0) + x.leaves(0) + x.begin() + x.table(0, 0, 0) + x.reply(0, 0);
        sum += x.answer(0, 0) + x.rests(0) + x.rest(0) + x.sure(0) + x.ask(1) + x.found(1) + x.asks() + x.dodges(0, 0);
        sum += x.week(0) + x.fine(0, 0) + x.often(0) + x.mean(0, 0) + x.learns(0, 1) + x.matters(0) + x.doors(1) + x.loo();
        sum += x.row(0, 0, 2) + x.write(0, 0, 1) + x.paste(0, 0, 0, 1, 1) + x.sighted(0) + x.told(0) + x.may(0, 1) + x.look(0);
        sum += x.image(0) + x.set(0, 0, 1) + x.send(0, 1) + x.undo() + x.back(0) + x.drawn(1, 0) + x.trips(1, 20, 0);
        return sum;
    }

    private static final int[] WORDS = words("train coaches 8 minutes 40 every 1 fare 9 fine 99; coach 0 people 9 loo doors;"
        + "coach 7 people 9 loo doors; inspector at 3 up pace 2 knocks 9 turns; inspector at 0 up pace 1;"
        + "rider in 1 loo sees 7 looks 5; rider in 7 round sees 7 looks 5; day 0 odds 5;");

    private static int[] words(String text) {
        int[] words = new int[(text.length() + 19) / 20 * 5];
        for (int i = 0; i < 4 * words.length; i++) {
            words[i / 4] = words[i / 4] << 8 | (i < text.length() ? text.charAt(i) : ' ');
        }
        return words;
    }
}
