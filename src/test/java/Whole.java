import java.util.ArrayList;
import java.util.List;

/**
 * All that can be seen of an object, told as a row of answers. The looking itself changes the object, so
 * two objects made by the same calls are looked at, one of them after calls that should leave all as it was.
 * SLOT 3 should have nothing: it is used to read the others.
 */
final class Whole {
    /** A pair of 0 and C in a row is told as the BEGIN 2 C. */
    static final String EIGHT = "train coaches 8 minutes 40 every 1 fare 0 fine 0; inspector at 0 up pace 1;";

    private final CoachAhead x;
    private final List<Integer> seen = new ArrayList<>();

    private Whole(CoachAhead x) {
        this.x = x;
    }

    static List<Integer> of(CoachAhead x) {
        Whole whole = new Whole(x);
        whole.counts();
        whole.parts();
        whole.changes();
        whole.tape();
        whole.images();
        whole.slots();
        return whole.seen;
    }

    private void counts() {
        for (int what = 0; what <= 10; what++) {
            seen.add(x.count(what));
        }
        seen.add(x.fault(0));
        seen.add(x.fault(1));
    }

    private void parts() {
        for (int what = 0; what < 5; what++) {
            for (int c = 0; c < 8 && what < 3; c++) {
                seen.add(x.coach(c, what));
            }
            for (int i = 0; i < 3; i++) {
                seen.add(x.inspector(i, what));
            }
            for (int r = 0; r < 6; r++) {
                seen.add(x.rider(r, what));
            }
        }
        for (int d = 0; d < 7; d++) {
            seen.add(x.day(d));
        }
    }

    private void changes() {
        int left = x.undo();
        for (int i = 0; i < 61 && left >= 0; i++) {
            seen.add(left);
            seen.add(x.coach(0, 0));
            seen.add(x.inspector(0, 0));
            left = x.undo();
        }
        seen.add(left);
    }

    private void tape() {
        seen.add(x.train());
        counts();
    }

    private void images() {
        for (int k = 0; k < 3; k++) {
            seen.add(x.back(k));
            counts();
            seen.add(x.coach(0, 0));
            seen.add(x.undo());
            seen.add(x.coach(0, 0));
        }
    }

    private void slots() {
        seen.add(x.write(3, 0, 0));
        Checks.type(x, EIGHT);
        seen.add(x.train());
        for (int s = 0; s < 3; s++) {
            for (int width = 0; width < 4; width++) {
                x.row(3, width, 2);
                int alike = x.paste(s, 0, 3, 1, 0);
                seen.add(alike);
                for (int i = 0; i < 60 && alike == 0; i++) {
                    alike = x.paste(s, i, 3, 1, 1);
                    seen.add(alike == 0 ? x.told(3) : alike);
                }
            }
        }
    }
}
