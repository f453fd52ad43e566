/** The edges of promises 47 to 50: what a row of sightings may be, and what it leaves. */
public final class EdgeSightTest {
    private static final Checks CHECKS = new Checks();
    private static final String EIGHT = Whole.EIGHT;

    public static void main(String[] args) {
        fullRow();
        emptyRow();
        notTwoEach();
        numbersAtTheirBounds();
        eachNumberOfTheRow();
        numbersOfEachWidth();
        nothingAndNoneSuch();
        anotherTrain();
        onlyInspectorNought();
        noneFits();
        mayAtItsEnds();
        lookInTheLastMinute();
        lookIfFewer();
        lookFirstOfSeveral();
        goneCountsAsAPlace();
        CHECKS.close("EdgeSightTest");
    }

    private static CoachAhead of(String text, int... numbers) {
        CoachAhead x = Checks.of(text);
        put(x, 0, 0, numbers);
        return x;
    }

    private static void put(CoachAhead x, int slot, int width, int... numbers) {
        x.row(slot, width, numbers.length);
        for (int i = 0; i < numbers.length; i++) {
            x.write(slot, i, numbers[i]);
        }
    }

    private static void answers(CoachAhead x, int slot, int sighted, int told, int may, int look) {
        CHECKS.due("sighted(" + slot + ")", x.sighted(slot), sighted);
        CHECKS.due("told(" + slot + ")", x.told(slot), told);
        CHECKS.due("may(" + slot + ", 0)", x.may(slot, 0), may);
        CHECKS.due("look(" + slot + ")", x.look(slot), look);
    }

    private static void refused(CoachAhead x, int slot, int due) {
        answers(x, slot, due, due, due, due);
    }

    private static void fullRow() {
        int[] numbers = new int[60];
        for (int i = 0; i < 60; i += 2) {
            numbers[i] = i / 2 % 5;
            numbers[i + 1] = 3 + i / 2 % 5;
        }
        // Up from 3 it is in 7 in MINUTE 4.
        answers(of(EIGHT, numbers), 0, 1, 6, 8, -1);
        numbers[59] = 0;
        answers(of(EIGHT, numbers), 0, 0, -1, 0, -1);
        numbers[59] = 8;
        refused(of(EIGHT, numbers), 0, -2);
        numbers[59] = 0;
        numbers[58] = 40;
        refused(of(EIGHT, numbers), 0, -2);
    }

    private static void emptyRow() {
        CoachAhead x = of(EIGHT);
        answers(x, 0, 16, 0, 255, 0);
        CHECKS.due("may(0, 7)", x.may(0, 7), 129);
        CHECKS.due("may(0, 8)", x.may(0, 8), 0);
    }

    private static void notTwoEach() {
        refused(of(EIGHT, 0), 0, -2);
        refused(of(EIGHT, 0, 0, 0), 0, -2);
        refused(of(EIGHT, new int[59]), 0, -2);
        answers(of(EIGHT, new int[58]), 0, 2, 0, 1, 1);
        refused(of(EIGHT, 40, 8, 40), 0, -2);
    }

    private static void numbersAtTheirBounds() {
        // In MINUTE 39 it is gone by every BEGIN: none fits, but it is a MINUTE.
        answers(of(EIGHT, 39, 0), 0, 0, -1, 0, -1);
        answers(of(EIGHT, 39, 7), 0, 0, -1, 0, -1);
        answers(of(EIGHT, 0, 7), 0, 2, 14, 128, 1);
        answers(of(EIGHT, 0, 0), 0, 2, 0, 1, 1);
        refused(of(EIGHT, 40, 0), 0, -2);
        refused(of(EIGHT, -1, 0), 0, -2);
        refused(of(EIGHT, 0, 8), 0, -2);
        refused(of(EIGHT, 0, -1), 0, -2);
        String two = "train coaches 2 minutes 1 every 1 fare 0 fine 0; inspector at 0 up pace 1;";
        answers(of(two, 0, 1), 0, 2, 2, 2, -1);
        refused(of(two, 1, 1), 0, -2);
        refused(of(two, 0, 2), 0, -2);
    }

    private static void eachNumberOfTheRow() {
        for (int i = 0; i < 60; i++) {
            int[] numbers = new int[60];
            numbers[i] = i % 2 == 0 ? 39 : 7;
            answers(of(EIGHT, numbers), 0, 0, -1, 0, -1);
            numbers[i] = i % 2 == 0 ? 40 : 8;
            refused(of(EIGHT, numbers), 0, -2);
            numbers[i] = -1;
            refused(of(EIGHT, numbers), 0, -2);
        }
    }

    private static void numbersOfEachWidth() {
        long[] beyond = {-1, 40, 127, 128, 255, 32767, 32768, 65535, Integer.MAX_VALUE, 2147483648L, 4294967295L,
            Long.MAX_VALUE, Long.MIN_VALUE + 255, -40};
        for (int width = 0; width < 4; width++) {
            for (long v : beyond) {
                long cut = width == 3 ? v : v & (1L << (8 << width)) - 1;
                if (cut == 0) {
                    continue;
                }
                CoachAhead x = Checks.of(EIGHT);
                x.row(1, width, 2);
                x.write(1, 0, v);
                refused(x, 1, -2);
                x.row(1, width, 2);
                x.write(1, 1, v);
                refused(x, 1, -2);
            }
        }
        // One greater than a whole number of int's: no MINUTE, if the row has room for it.
        CoachAhead x = Checks.of(EIGHT);
        x.row(1, 3, 2);
        x.write(1, 0, 1L << 32);
        refused(x, 1, -2);
        x.row(1, 3, 2);
        x.write(1, 1, Long.MIN_VALUE);
        refused(x, 1, -2);
    }

    private static void nothingAndNoneSuch() {
        CoachAhead x = Checks.of(EIGHT);
        for (int slot = 0; slot < 4; slot++) {
            refused(x, slot, -6);
        }
        int[] wrong = {-1, 4, Integer.MIN_VALUE, Integer.MAX_VALUE};
        for (int slot : wrong) {
            refused(x, slot, -2);
        }
        // Without INSPECTORS -2, whatever the SLOT has.
        x = Checks.of("train coaches 8 minutes 40 every 1 fare 0 fine 0;");
        refused(x, 0, -2);
        put(x, 0, 0, 0, 0);
        refused(x, 0, -2);
        refused(x, 4, -2);
        x = new CoachAhead();
        refused(x, 3, -2);
        put(x, 3, 0, 0, 0);
        refused(x, 3, -2);
    }

    private static void anotherTrain() {
        CoachAhead x = of(EIGHT, 0, 7);
        put(x, 1, 0, 0, 1);
        x.image(0);
        answers(x, 0, 2, 14, 128, 1);
        Checks.type(x, "train coaches 7 minutes 40 every 1 fare 0 fine 0; inspector at 0 up pace 1;");
        x.train();
        refused(x, 0, -2);
        answers(x, 1, 2, 2, 2, 1);
        x.train();
        refused(x, 1, -2);
        x.back(0);
        answers(x, 0, 2, 14, 128, 1);
    }

    private static void onlyInspectorNought() {
        CoachAhead x = of(EIGHT + "inspector at 7 down pace 1 turns;", 6, 0);
        // By BEGIN 13 alone, 6 down.
        answers(x, 0, 1, 13, 64, -1);
        x.send(0, 4);
        answers(x, 0, 1, 13, 64, -1);
        // With two MINUTES in 4, it is 5 down that comes to 0 in MINUTE 6.
        x.set(4, 0, 1);
        answers(x, 0, 1, 11, 32, -1);
    }

    private static void noneFits() {
        CoachAhead x = of(EIGHT, 0, 3, 1, 5);
        answers(x, 0, 0, -1, 0, -1);
        for (int m = 0; m < 40; m++) {
            CHECKS.due("may(0, " + m + ")", x.may(0, m), 0);
        }
    }

    private static void mayAtItsEnds() {
        CoachAhead x = of(EIGHT, 0, 7);
        CHECKS.due("may(0, 0)", x.may(0, 0), 128);
        CHECKS.due("may(0, 1): one is gone", x.may(0, 1), 64);
        CHECKS.due("may(0, 7)", x.may(0, 7), 1);
        CHECKS.due("may(0, 8): both are gone", x.may(0, 8), 0);
        CHECKS.due("may(0, 39)", x.may(0, 39), 0);
        int[] wrong = {-1, 40, Integer.MIN_VALUE, Integer.MAX_VALUE};
        for (int minute : wrong) {
            CHECKS.due("may(0, " + minute + ")", x.may(0, minute), -2);
        }
        CHECKS.due("may(0, 3), asked first", of(EIGHT, 0, 3).may(0, 3), 65);
    }

    private static void lookInTheLastMinute() {
        // It stays in 0 for 39 MINUTES, then it is in 1, or gone.
        String forty = "train coaches 2 minutes 40 every 1 fare 0 fine 0; coach 0 people 38; inspector at 0 up pace 1;";
        answers(of(forty, 0, 0), 0, 2, 0, 1, 39);
        answers(of(forty.replace("38", "39"), 0, 0), 0, 2, 0, 1, -1);
        answers(of(forty.replace("minutes 40", "minutes 39"), 0, 0), 0, 2, 0, 1, -1);
    }

    private static void lookIfFewer() {
        // One is left, or none: no sighting leaves fewer.
        CHECKS.due("look() of one", of(EIGHT, 0, 3, 1, 4).look(0), -1);
        CHECKS.due("look() of none", of(EIGHT, 0, 3, 1, 6).look(0), -1);
        CHECKS.due("look() of two", of(EIGHT, 0, 3).look(0), 1);
        // Two BEGINS of a COACH where it turns are alike for ever.
        String turns = "train coaches 2 minutes 9 every 1 fare 0 fine 0; inspector at 0 up pace 1 turns;";
        CHECKS.due("look() of like ones", of(turns, 0, 0).look(0), -1);
        CHECKS.due("look() of four, two and two", of(turns).look(0), 0);
    }

    private static void lookFirstOfSeveral() {
        // From 3 COACHES: in MINUTE 0 two each; in MINUTE 1 two in 1, two gone; in MINUTE 2 four gone.
        String three = "train coaches 3 minutes 4 every 1 fare 0 fine 0; inspector at 0 up pace 1;";
        CHECKS.due("look() of six", of(three).look(0), 0);
        // In 1 in MINUTE 1: BEGINS 0 and 5; in MINUTE 0 and in 2 they are apart.
        CoachAhead x = of(three, 1, 1);
        answers(x, 0, 2, 0, 5, 0);
        String slow = "train coaches 3 minutes 5 every 1 fare 0 fine 0; coach 0 people 1; inspector at 0 up pace 1;";
        x = of(slow, 1, 0);
        // In 0 in MINUTE 1: up and down from 0, and 1 down. MINUTE 0 parts one off, MINUTE 2 all three.
        answers(x, 0, 3, 0, 3, 2);
    }

    private static void goneCountsAsAPlace() {
        // Both are in 1 in MINUTE 0; then one is gone, the other in 0; then both are gone.
        CoachAhead x = of("train coaches 2 minutes 4 every 1 fare 0 fine 0; inspector at 0 up pace 1;", 0, 1);
        CHECKS.due("may(0, 1)", x.may(0, 1), 1);
        CHECKS.due("look(0)", x.look(0), 1);
        // All are gone but two in COACHES of their own: gone are the most, so it is no better.
        x = of("train coaches 2 minutes 3 every 1 fare 0 fine 0; inspector at 0 up pace 1;");
        CHECKS.due("may(0, 1)", x.may(0, 1), 3);
        CHECKS.due("look(0): two each in MINUTE 0", x.look(0), 0);
    }
}
