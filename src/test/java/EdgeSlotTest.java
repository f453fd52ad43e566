/** The edges of promises 59 and 62 to 64: counts, rows, what is cut, what is pasted. */
public final class EdgeSlotTest {
    private static final Checks CHECKS = new Checks();
    private static final int MIN = Integer.MIN_VALUE;
    private static final int MAX = Integer.MAX_VALUE;

    public static void main(String[] args) {
        countsAtTheirBounds();
        rowsFromNoneToSixty();
        rowRefusedStays();
        rowInPlaceOfAnother();
        writeFirstAndLast();
        cutToEachWidth();
        wholeRowPasted();
        noneOrOnePasted();
        pastedOntoItself();
        pasteAsksInItsOrder();
        CHECKS.close("EdgeSlotTest");
    }

    /** Number i of a SLOT's row, read by a pair of 0 and it in another SLOT; the TRAIN is Whole.EIGHT. */
    private static int read(CoachAhead x, int slot, int width, int i, int other) {
        x.row(other, width, 2);
        int alike = x.paste(slot, i, other, 1, 1);
        int told = alike == 0 ? x.told(other) : alike;
        return told >= 0 ? told / 2 : told;
    }

    private static void countsAtTheirBounds() {
        CoachAhead x = new CoachAhead();
        int[] others = {-1, 11, MIN, MAX};
        for (int what = 0; what <= 10; what++) {
            CHECKS.due("count(" + what + ") of a new one", x.count(what), 0);
        }
        for (int what : others) {
            CHECKS.due("count(" + what + ")", x.count(what), -1);
        }
        x = Checks.of("train coaches 8 minutes 40 every 20 fare 99 fine 999;" + "inspector at 7 up pace 1;".repeat(3)
            + "rider in 7 stay sees 0 looks 0;".repeat(6));
        for (int s = 0; s < 4; s++) {
            x.row(s, s, 60);
        }
        for (int i = 0; i < 60; i++) {
            x.set(7, 0, i);
            x.feed(0, 0, 0, 0, 0);
        }
        int[] due = {8, 40, 20, 99, 999, 3, 6, 10, 1200, 60, 4};
        for (int what = 0; what <= 10; what++) {
            CHECKS.due("count(" + what + ") of a full one", x.count(what), due[what]);
        }
        for (int what : others) {
            CHECKS.due("count(" + what + ")", x.count(what), -1);
        }
    }

    private static void rowsFromNoneToSixty() {
        CoachAhead x = Checks.of(Whole.EIGHT);
        for (int slot = 0; slot < 4; slot++) {
            for (int width = 0; width < 4; width++) {
                CHECKS.due("row(" + slot + ", " + width + ", 60)", x.row(slot, width, 60), 0);
                CHECKS.due("write(59)", x.write(slot, 59, 0), 0);
                CHECKS.due("write(60)", x.write(slot, 60, 0), -7);
                CHECKS.due("row(" + slot + ", " + width + ", 1)", x.row(slot, width, 1), 0);
                CHECKS.due("write(0)", x.write(slot, 0, 0), 0);
                CHECKS.due("write(1)", x.write(slot, 1, 0), -7);
                CHECKS.due("row(" + slot + ", " + width + ", 0)", x.row(slot, width, 0), 0);
                CHECKS.due("write(0)", x.write(slot, 0, 0), -7);
                CHECKS.due("a row of none is a row", x.count(10), slot + 1);
            }
        }
    }

    private static void rowRefusedStays() {
        CoachAhead x = Checks.of(Whole.EIGHT);
        int[][] wrong = {{4, 0, 1, -2}, {-1, 0, 1, -2}, {MAX, 0, 1, -2}, {MIN, 0, 1, -2}, {1, 4, 1, -2}, {1, -1, 1, -2},
            {1, MAX, 1, -2}, {1, MIN, 1, -2}, {1, 0, 61, -2}, {1, 0, MAX, -2}, {1, 0, -1, -3}, {1, 3, MIN, -3},
            {4, 0, -1, -2}, {1, 4, -1, -2}, {-1, -1, -1, -2}, {4, 4, 61, -2}};
        for (int[] w : wrong) {
            CHECKS.due("row(" + w[0] + ", " + w[1] + ", " + w[2] + ")", x.row(w[0], w[1], w[2]), w[3]);
        }
        CHECKS.due("nothing is there yet", x.count(10), 0);
        CHECKS.due("write()", x.write(1, 0, 0), -6);
        x.row(1, 1, 3);
        x.write(1, 2, 5);
        for (int[] w : wrong) {
            x.row(w[0], w[1], w[2]);
        }
        CHECKS.due("number 2 stays", read(x, 1, 1, 2, 0), 5);
        CHECKS.due("three numbers stay", x.write(1, 3, 0), -7);
    }

    private static void rowInPlaceOfAnother() {
        CoachAhead x = Checks.of(Whole.EIGHT);
        x.row(1, 1, 60);
        for (int i = 0; i < 60; i++) {
            x.write(1, i, 7);
        }
        CHECKS.due("row()", x.row(1, 2, 60), 0);
        int[] some = {0, 1, 58, 59};
        for (int i : some) {
            CHECKS.due("number " + i + " is 0", read(x, 1, 2, i, 0), 0);
        }
        CHECKS.due("of the old WIDTH no more", read(x, 1, 1, 0, 0), -8);
        x.row(1, 2, 0);
        x.row(1, 2, 60);
        CHECKS.due("number 59 is 0", read(x, 1, 2, 59, 0), 0);
    }

    private static void writeFirstAndLast() {
        CoachAhead x = Checks.of(Whole.EIGHT);
        int[] slots = {-1, 4, MIN, MAX};
        for (int slot : slots) {
            CHECKS.due("write(" + slot + ")", x.write(slot, 0, 0), -2);
            CHECKS.due("write(" + slot + ")", x.write(slot, -1, 0), -2);
        }
        CHECKS.due("-6 ahead of -7", x.write(0, -1, 0), -6);
        x.row(0, 0, 60);
        int[] beyond = {-1, 60, MIN, MAX};
        for (int i : beyond) {
            CHECKS.due("write(0, " + i + ")", x.write(0, i, 3), -7);
        }
        CHECKS.due("write(0, 0)", x.write(0, 0, 1), 0);
        CHECKS.due("write(0, 59)", x.write(0, 59, 2), 0);
        CHECKS.due("number 0", read(x, 0, 0, 0, 1), 1);
        CHECKS.due("number 1", read(x, 0, 0, 1, 1), 0);
        CHECKS.due("number 58", read(x, 0, 0, 58, 1), 0);
        CHECKS.due("number 59", read(x, 0, 0, 59, 1), 2);
    }

    private static void cutToEachWidth() {
        CoachAhead x = Checks.of(Whole.EIGHT);
        for (int width = 0; width < 4; width++) {
            int bits = 8 << width;
            x.row(0, width, 1);
            for (int low = 0; low < 64; low++) {
                x.write(0, 0, 5 | 1L << low);
                // A bit that is cut off leaves 5, one of the first three makes 5 or 7, another none of a COACH.
                int due = low >= bits ? 5 : low == 1 ? 7 : low < 3 ? 5 : -2;
                CHECKS.due("5 and bit " + low + " by WIDTH " + width, read(x, 0, width, 0, 1), due);
            }
            long[] cutToThree = {3, 3 + 256, 3 - 256, 3 + 65536, 3 - 65536, 3 + (1L << 32), 3 - (1L << 32), 3 + (1L << 63)};
            for (long v : cutToThree) {
                x.write(0, 0, v);
                boolean cut = bits < 64 && (v - 3) % (1L << bits) == 0 || v == 3;
                CHECKS.due(v + " by WIDTH " + width, read(x, 0, width, 0, 1), cut ? 3 : -2);
            }
            x.write(0, 0, -1L);
            CHECKS.due("-1 by WIDTH " + width, read(x, 0, width, 0, 1), -2);
            x.write(0, 0, Long.MAX_VALUE);
            CHECKS.due("the greatest by WIDTH " + width, read(x, 0, width, 0, 1), -2);
        }
    }

    private static CoachAhead counting() {
        CoachAhead x = Checks.of(Whole.EIGHT);
        x.row(0, 1, 60);
        x.row(1, 1, 60);
        for (int i = 0; i < 60; i++) {
            x.write(0, i, i % 7 + 1);
        }
        return x;
    }

    private static void wholeRowPasted() {
        CoachAhead x = counting();
        CHECKS.due("paste of sixty", x.paste(0, 0, 1, 0, 60), 0);
        for (int i = 0; i < 60; i++) {
            CHECKS.due("number " + i, read(x, 1, 1, i, 2), i % 7 + 1);
        }
        CHECKS.due("paste of sixty-one", x.paste(0, 0, 1, 0, 61), -7);
        CHECKS.due("paste of sixty from 1", x.paste(0, 1, 1, 0, 60), -7);
        CHECKS.due("paste of sixty to 1", x.paste(0, 0, 1, 1, 60), -7);
        CHECKS.due("paste of fifty-nine from 1", x.paste(0, 1, 1, 0, 59), 0);
        CHECKS.due("number 58", read(x, 1, 1, 58, 2), 59 % 7 + 1);
        CHECKS.due("number 59 as it was", read(x, 1, 1, 59, 2), 59 % 7 + 1);
        CHECKS.due("the first row as it was", read(x, 0, 1, 0, 2), 1);
    }

    private static void noneOrOnePasted() {
        CoachAhead x = counting();
        CHECKS.due("none, from 0", x.paste(0, 0, 1, 0, 0), 0);
        CHECKS.due("none, behind the last", x.paste(0, 60, 1, 60, 0), 0);
        CHECKS.due("none, farther", x.paste(0, 61, 1, 0, 0), -7);
        CHECKS.due("none, farther", x.paste(0, 0, 1, 61, 0), -7);
        CHECKS.due("none of them came", read(x, 1, 1, 0, 2) + read(x, 1, 1, 59, 2), 0);
        CHECKS.due("the last to the first", x.paste(0, 59, 1, 0, 1), 0);
        CHECKS.due("the first to the last", x.paste(0, 0, 1, 59, 1), 0);
        CHECKS.due("number 0", read(x, 1, 1, 0, 2), 59 % 7 + 1);
        CHECKS.due("number 1", read(x, 1, 1, 1, 2), 0);
        CHECKS.due("number 59", read(x, 1, 1, 59, 2), 1);
        CHECKS.due("one behind the last", x.paste(0, 60, 1, 0, 1), -7);
        CHECKS.due("one to behind the last", x.paste(0, 0, 1, 60, 1), -7);
        x.row(3, 1, 0);
        CHECKS.due("none of a row of none", x.paste(3, 0, 1, 0, 0), 0);
        CHECKS.due("none to a row of none", x.paste(0, 0, 3, 0, 0), 0);
        CHECKS.due("one of a row of none", x.paste(3, 0, 1, 0, 1), -7);
        CHECKS.due("one to a row of none", x.paste(0, 0, 3, 0, 1), -7);
    }

    private static void pastedOntoItself() {
        // As they were, either way, even where the parts overlap.
        CoachAhead x = counting();
        CHECKS.due("on by one", x.paste(0, 0, 0, 1, 59), 0);
        for (int i = 0; i < 60; i++) {
            CHECKS.due("number " + i, read(x, 0, 1, i, 2), i == 0 ? 1 : (i - 1) % 7 + 1);
        }
        x = counting();
        CHECKS.due("back by one", x.paste(0, 1, 0, 0, 59), 0);
        for (int i = 0; i < 60; i++) {
            CHECKS.due("number " + i, read(x, 0, 1, i, 2), i == 59 ? 59 % 7 + 1 : (i + 1) % 7 + 1);
        }
        x = counting();
        CHECKS.due("onto itself", x.paste(0, 0, 0, 0, 60), 0);
        CHECKS.due("number 3", read(x, 0, 1, 3, 2), 4);
    }

    private static void pasteAsksInItsOrder() {
        CoachAhead x = Checks.of(Whole.EIGHT);
        x.row(0, 0, 4);
        x.row(1, 1, 4);
        int[][] asked = {{4, 0, 0, 0, 0, -2}, {0, 0, 4, 0, 0, -2}, {-1, 0, 0, 0, 0, -2}, {0, 0, -1, 0, 0, -2},
            {2, 0, 4, 0, 0, -2}, {4, 0, 2, 0, 0, -2}, {2, -1, 0, 0, 0, -6}, {0, 0, 2, 9, 9, -6}, {2, 0, 3, 0, 0, -6},
            {0, -1, 1, 0, 0, -8}, {0, 0, 1, 0, 9, -8}, {1, 0, 0, 0, 0, -8}, {0, 0, 0, 0, 5, -7}, {0, 0, 0, 0, -1, -7}};
        for (int[] a : asked) {
            CHECKS.due("paste(" + a[0] + ", " + a[1] + ", " + a[2] + ", " + a[3] + ", " + a[4] + ")",
                x.paste(a[0], a[1], a[2], a[3], a[4]), a[5]);
        }
    }
}
