/** Promises 62 to 64: rows in SLOTS. A row is read by what its sightings tell of a BEGIN. */
public final class SlotTest {
    private static final Checks CHECKS = new Checks();
    /** A pair of 0 and C leaves the two BEGINS in COACH C: told() is 2 C. */
    private static final String EIGHT = "train coaches 8 minutes 40 every 1 fare 0 fine 0; inspector at 0 up pace 1;";

    public static void main(String[] args) {
        rows();
        writes();
        pastes();
        overlaps();
        wrongPastes();
        CHECKS.close("SlotTest");
    }

    private static void fill(CoachAhead x, int slot, int width, int... numbers) {
        CHECKS.due("row", x.row(slot, width, numbers.length), 0);
        for (int i = 0; i < numbers.length; i++) {
            CHECKS.due("write", x.write(slot, i, numbers[i]), 0);
        }
    }

    private static void rows() {
        CoachAhead x = Checks.of(EIGHT);
        CHECKS.due("count(10)", x.count(10), 0);
        for (int s = 0; s < 4; s++) {
            CHECKS.due("row(" + s + ")", x.row(s, s, 60), 0);
            CHECKS.due("count(10)", x.count(10), s + 1);
            // All 0: it was in COACH 0 in MINUTE 0.
            CHECKS.due("sighted(" + s + ")", x.sighted(s), 2);
        }
        fill(x, 0, 0, 0, 5);
        CHECKS.due("told(0)", x.told(0), 10);
        CHECKS.due("row(0, 0, -1)", x.row(0, 0, -1), -3);
        CHECKS.due("row(0, 0, min)", x.row(0, 0, Integer.MIN_VALUE), -3);
        CHECKS.due("row(0, 0, 61)", x.row(0, 0, 61), -2);
        CHECKS.due("row(0, 0, max)", x.row(0, 0, Integer.MAX_VALUE), -2);
        CHECKS.due("row(4, 0, 1)", x.row(4, 0, 1), -2);
        CHECKS.due("row(-1, 0, 1)", x.row(-1, 0, 1), -2);
        CHECKS.due("row(0, 4, 1)", x.row(0, 4, 1), -2);
        CHECKS.due("row(0, -1, 1)", x.row(0, -1, 1), -2);
        CHECKS.due("row(4, 0, -1)", x.row(4, 0, -1), -2);
        CHECKS.due("row(0, 4, -1)", x.row(0, 4, -1), -2);
        CHECKS.due("told(0) as ever", x.told(0), 10);
        CHECKS.due("row(0, 1, 2)", x.row(0, 1, 2), 0);
        CHECKS.due("told(0), all 0", x.told(0), 0);
        CHECKS.due("row(0, 1, 0)", x.row(0, 1, 0), 0);
        CHECKS.due("count(10)", x.count(10), 4);
        CHECKS.due("write(0, 0, 0)", x.write(0, 0, 0), -7);
        CHECKS.due("without a TRAIN too", new CoachAhead().row(0, 0, 3), 0);
    }

    private static void writes() {
        CoachAhead x = Checks.of(EIGHT);
        CHECKS.due("write(0, 0, 1)", x.write(0, 0, 1), -6);
        CHECKS.due("write(4, 0, 1)", x.write(4, 0, 1), -2);
        CHECKS.due("write(-1, 0, 1)", x.write(-1, 0, 1), -2);
        long[] wraps = {1L << 8, 1L << 16, 1L << 32, 0L};
        for (int width = 0; width < 4; width++) {
            CHECKS.due("row", x.row(0, width, 2), 0);
            CHECKS.due("write(0, 1, v)", x.write(0, 1, 3 + wraps[width]), 0);
            CHECKS.due("told(0)", x.told(0), 6);
            CHECKS.due("write(0, 1, v)", x.write(0, 1, 4 - 5 * wraps[width]), 0);
            CHECKS.due("told(0)", x.told(0), 8);
            // What fits is not cut.
            CHECKS.due("write(0, 1, v)", x.write(0, 1, width == 0 ? 64 : wraps[width - 1]), 0);
            CHECKS.due("told(0)", x.told(0), -2);
            CHECKS.due("write(0, 2, 1)", x.write(0, 2, 1), -7);
            CHECKS.due("write(0, -1, 1)", x.write(0, -1, 1), -7);
            CHECKS.due("write(0, max, 1)", x.write(0, Integer.MAX_VALUE, 1), -7);
        }
    }

    private static void pastes() {
        CoachAhead x = Checks.of(EIGHT);
        fill(x, 0, 2, 9, 0, 6, 9);
        fill(x, 1, 2, 7, 0, 3, 7);
        CHECKS.due("told(1)", x.told(1), -1);
        x.row(2, 2, 2);
        CHECKS.due("paste(1, 1, 2, 0, 2)", x.paste(1, 1, 2, 0, 2), 0);
        CHECKS.due("told(2)", x.told(2), 6);
        CHECKS.due("paste(0, 2, 2, 1, 1)", x.paste(0, 2, 2, 1, 1), 0);
        CHECKS.due("told(2)", x.told(2), 12);
        CHECKS.due("paste(0, 0, 2, 0, 0)", x.paste(0, 0, 2, 0, 0), 0);
        CHECKS.due("paste(0, 4, 2, 2, 0)", x.paste(0, 4, 2, 2, 0), 0);
        CHECKS.due("told(2)", x.told(2), 12);
    }

    private static void overlaps() {
        // 0 1 2 3 moved on by one within its row: 0 0 1 2, as they were.
        CoachAhead x = Checks.of(EIGHT);
        fill(x, 0, 1, 0, 1, 2, 3);
        CHECKS.due("sighted(0)", x.sighted(0), 1);
        CHECKS.due("paste(0, 0, 0, 1, 3)", x.paste(0, 0, 0, 1, 3), 0);
        x.row(1, 1, 2);
        x.paste(0, 1, 1, 1, 1);
        CHECKS.due("number 1", x.told(1), 0);
        x.paste(0, 2, 1, 1, 1);
        CHECKS.due("number 2", x.told(1), 2);
        x.paste(0, 3, 1, 1, 1);
        CHECKS.due("number 3", x.told(1), 4);
        // 5 6 7 moved back by one: 6 7 7.
        fill(x, 0, 1, 5, 6, 7);
        CHECKS.due("paste(0, 1, 0, 0, 2)", x.paste(0, 1, 0, 0, 2), 0);
        x.paste(0, 0, 1, 1, 1);
        CHECKS.due("number 0", x.told(1), 12);
        x.paste(0, 1, 1, 1, 1);
        CHECKS.due("number 1", x.told(1), 14);
        x.paste(0, 2, 1, 1, 1);
        CHECKS.due("number 2", x.told(1), 14);
    }

    private static void wrongPastes() {
        CoachAhead x = Checks.of(EIGHT);
        CHECKS.due("-6", x.paste(0, 0, 1, 0, 0), -6);
        fill(x, 0, 1, 0, 4);
        CHECKS.due("-6", x.paste(0, 0, 1, 0, 0), -6);
        CHECKS.due("-6", x.paste(1, 0, 0, 0, 0), -6);
        CHECKS.due("-2", x.paste(4, 0, 0, 0, 0), -2);
        CHECKS.due("-2", x.paste(0, 0, 4, 0, 0), -2);
        CHECKS.due("-2", x.paste(-1, 0, 1, 0, 0), -2);
        CHECKS.due("-2", x.paste(1, 0, -1, 0, 0), -2);
        fill(x, 2, 2, 0, 5, 0);
        CHECKS.due("-8", x.paste(0, 0, 2, 0, 1), -8);
        CHECKS.due("-8 ahead of -7", x.paste(0, -1, 2, 0, 9), -8);
        fill(x, 3, 1, 0, 5, 0);
        int[][] beyond = {{0, 0, 3}, {0, 2, 2}, {1, 0, 2}, {2, 0, 1}, {0, 3, 1}, {-1, 0, 1}, {0, -1, 1}, {0, 0, -1},
            {Integer.MAX_VALUE, 0, 1}, {0, Integer.MAX_VALUE, 1}, {1, 1, Integer.MAX_VALUE},
            {Integer.MIN_VALUE, 0, 1}, {0, 0, Integer.MIN_VALUE}, {Integer.MAX_VALUE, 0, Integer.MAX_VALUE}};
        for (int[] b : beyond) {
            CHECKS.due("-7 at " + b[0] + ", " + b[1] + ", " + b[2], x.paste(0, b[0], 3, b[1], b[2]), -7);
        }
        x.row(1, 1, 2);
        x.paste(3, 1, 1, 1, 1);
        CHECKS.due("nothing happened", x.told(1), 10);
    }
}
