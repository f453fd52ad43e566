/** The edges of promises 54 to 56, 60 and 61: the first and the last change, the IMAGES. */
public final class EdgeChangeTest {
    private static final Checks CHECKS = new Checks();
    private static final String EIGHT = "train coaches 8 minutes 40 every 1 fare 0 fine 0; coach 7 people 99 loo doors;"
        + "inspector at 7 down pace 1; inspector at 0 up pace 1; inspector at 3 up pace 1;";
    private static final int MIN = Integer.MIN_VALUE;
    private static final int MAX = Integer.MAX_VALUE;

    public static void main(String[] args) {
        setFromLeastToMost();
        setWrong();
        sendFromLeastToMost();
        sixtySets();
        sixtySends();
        sixtyOfBoth();
        likeValuesAreChanges();
        undoToTheFirst();
        undoWithoutTrain();
        trainForgetsChanges();
        faultKeepsChanges();
        imagesOfEachNumber();
        imageOfSixtyChanges();
        imageOfNoTrain();
        imageStaysAsItWas();
        backLeavesTheRest();
        CHECKS.close("EdgeChangeTest");
    }

    private static void setFromLeastToMost() {
        CoachAhead x = Checks.of(EIGHT);
        CHECKS.due("set(7, 0, 0)", x.set(7, 0, 0), 99);
        CHECKS.due("set(7, 0, 99)", x.set(7, 0, 99), 0);
        CHECKS.due("set(7, 1, 0)", x.set(7, 1, 0), 1);
        CHECKS.due("set(7, 1, 1)", x.set(7, 1, 1), 0);
        CHECKS.due("set(7, 2, 0)", x.set(7, 2, 0), 1);
        CHECKS.due("set(7, 2, 1)", x.set(7, 2, 1), 0);
        CHECKS.due("set(0, 0, 98)", x.set(0, 0, 98), 0);
        CHECKS.due("coach(0, 0)", x.coach(0, 0), 98);
        CHECKS.due("coach(1, 0)", x.coach(1, 0), 0);
        CHECKS.due("stays(1, 0)", x.stays(1, 0), 99);
        CHECKS.due("count(9)", x.count(9), 7);
    }

    private static void setWrong() {
        CoachAhead x = Checks.of(EIGHT);
        int[][] wrong = {{8, 0, 0}, {-1, 0, 0}, {MAX, 0, 0}, {MIN, 0, 0}, {0, 3, 0}, {0, -1, 0}, {0, MAX, 0}, {0, MIN, 0},
            {0, 0, 100}, {0, 0, -1}, {0, 0, MAX}, {0, 0, MIN}, {0, 1, 2}, {0, 1, -1}, {0, 1, 99}, {0, 2, 2}, {0, 2, -1},
            {0, 2, MAX}};
        for (int[] w : wrong) {
            CHECKS.due("set(" + w[0] + ", " + w[1] + ", " + w[2] + ")", x.set(w[0], w[1], w[2]), -2);
        }
        CHECKS.due("count(9)", x.count(9), 0);
        CHECKS.due("undo()", x.undo(), -5);
    }

    private static void sendFromLeastToMost() {
        CoachAhead x = Checks.of(EIGHT);
        CHECKS.due("send(0, 0)", x.send(0, 0), 15);
        CHECKS.due("send(0, 15)", x.send(0, 15), 0);
        CHECKS.due("send(2, 15)", x.send(2, 15), 6);
        CHECKS.due("inspector(2, 0)", x.inspector(2, 0), 7);
        CHECKS.due("inspector(2, 1)", x.inspector(2, 1), 1);
        CHECKS.due("inspector(1, 0)", x.inspector(1, 0), 0);
        CHECKS.due("pace, knocks, turning stay", x.inspector(2, 2) + x.inspector(2, 3) + x.inspector(2, 4), 1);
        int[][] wrong = {{3, 0}, {-1, 0}, {MAX, 0}, {MIN, 0}, {0, 16}, {0, -1}, {0, MAX}, {0, MIN}};
        for (int[] w : wrong) {
            CHECKS.due("send(" + w[0] + ", " + w[1] + ")", x.send(w[0], w[1]), -2);
        }
        CHECKS.due("count(9)", x.count(9), 3);
        CHECKS.due("send() without INSPECTORS", Checks.of(Trains.BARE).send(0, 0), -2);
    }

    private static void full(CoachAhead x) {
        CHECKS.due("count(9)", x.count(9), 60);
        CHECKS.due("set() as number 61", x.set(0, 0, 1), -5);
        CHECKS.due("send() as number 61", x.send(0, 1), -5);
        CHECKS.due("set() of none such", x.set(0, 0, 100), -2);
        CHECKS.due("send() of none such", x.send(3, 1), -2);
        CHECKS.due("count(9)", x.count(9), 60);
    }

    private static void sixtySets() {
        CoachAhead x = Checks.of(EIGHT);
        for (int i = 0; i < 60; i++) {
            CHECKS.due("set() " + i, x.set(0, 0, i + 1), i);
            CHECKS.due("count(9)", x.count(9), i + 1);
        }
        full(x);
        CHECKS.due("people", x.coach(0, 0), 60);
        CHECKS.due("undo()", x.undo(), 59);
        CHECKS.due("people", x.coach(0, 0), 59);
        CHECKS.due("one more", x.set(7, 1, 0), 1);
        full(x);
        CHECKS.due("undo()", x.undo(), 59);
        CHECKS.due("loo", x.coach(7, 1), 1);
        CHECKS.due("people", x.coach(0, 0), 59);
    }

    private static void sixtySends() {
        CoachAhead x = Checks.of(EIGHT);
        for (int i = 0; i < 60; i++) {
            CHECKS.due("send() " + i, x.send(1, (i + 1) % 16), i % 16);
        }
        full(x);
        CHECKS.due("at(1, 0)", x.at(1, 0), 6);
        for (int i = 59; i >= 0; i--) {
            CHECKS.due("undo()", x.undo(), i);
            CHECKS.due("at(1, 0)", x.at(1, 0), i % 16 / 2);
        }
        CHECKS.due("undo()", x.undo(), -5);
    }

    private static void sixtyOfBoth() {
        CoachAhead x = Checks.of(EIGHT);
        for (int i = 0; i < 60; i++) {
            CHECKS.holds("change " + i, (i % 3 == 0 ? x.send(i % 2, i % 16) : x.set(i % 8, i % 3, i % 2)) >= 0);
        }
        full(x);
        for (int i = 59; i >= 0; i--) {
            CHECKS.due("undo()", x.undo(), i);
        }
        CoachAhead fresh = Checks.of(EIGHT);
        CHECKS.holds("all is as it was", Whole.of(x).equals(Whole.of(fresh)));
    }

    private static void likeValuesAreChanges() {
        CoachAhead x = Checks.of(EIGHT);
        CHECKS.due("set(7, 0, 99)", x.set(7, 0, 99), 99);
        CHECKS.due("send(0, 15)", x.send(0, 15), 15);
        CHECKS.due("count(9)", x.count(9), 2);
        CHECKS.due("undo()", x.undo(), 1);
        CHECKS.due("undo()", x.undo(), 0);
        CHECKS.due("undo()", x.undo(), -5);
        CHECKS.due("count(9)", x.count(9), 0);
    }

    private static void undoToTheFirst() {
        CoachAhead x = Checks.of(EIGHT);
        CHECKS.due("undo() of none", x.undo(), -5);
        CHECKS.due("count(9)", x.count(9), 0);
        x.set(0, 0, 9);
        CHECKS.due("undo() of one", x.undo(), 0);
        CHECKS.due("people", x.coach(0, 0), 0);
        CHECKS.due("undo() of none", x.undo(), -5);
        x.set(0, 0, 8);
        CHECKS.due("count(9)", x.count(9), 1);
    }

    private static void undoWithoutTrain() {
        CoachAhead x = new CoachAhead();
        CHECKS.due("undo()", x.undo(), -2);
        CHECKS.due("set()", x.set(0, 0, 0), -2);
        CHECKS.due("send()", x.send(0, 0), -2);
        x = Checks.of(EIGHT);
        x.set(0, 0, 9);
        x.train();
        CHECKS.due("undo()", x.undo(), -2);
        CHECKS.due("set()", x.set(0, 0, 0), -2);
        CHECKS.due("send()", x.send(0, 0), -2);
        CHECKS.due("count(9)", x.count(9), 0);
    }

    private static void trainForgetsChanges() {
        CoachAhead x = Checks.of(EIGHT);
        for (int i = 0; i < 60; i++) {
            x.set(0, 0, i);
        }
        Checks.type(x, EIGHT);
        CHECKS.due("train()", x.train(), 5);
        CHECKS.due("count(9)", x.count(9), 0);
        CHECKS.due("undo()", x.undo(), -5);
        CHECKS.due("people", x.coach(0, 0), 0);
        CHECKS.due("set()", x.set(0, 0, 1), 0);
    }

    private static void faultKeepsChanges() {
        CoachAhead x = Checks.of(EIGHT);
        x.set(0, 0, 9);
        x.send(2, 1);
        Checks.type(x, EIGHT + "%");
        CHECKS.due("train()", x.train(), -4);
        CHECKS.due("count(9)", x.count(9), 2);
        CHECKS.due("people", x.coach(0, 0), 9);
        CHECKS.due("undo()", x.undo(), 1);
        CHECKS.due("COACH", x.inspector(2, 0), 3);
    }

    private static void imagesOfEachNumber() {
        CoachAhead x = Checks.of(EIGHT);
        for (int k = 0; k < 3; k++) {
            CHECKS.due("back(" + k + ") of nothing", x.back(k), -6);
        }
        for (int k = 0; k < 3; k++) {
            x.set(0, 0, 10 + k);
            CHECKS.due("image(" + k + ")", x.image(k), 0);
        }
        for (int k = 0; k < 3; k++) {
            CHECKS.due("back(" + k + ")", x.back(k), 0);
            CHECKS.due("people", x.coach(0, 0), 10 + k);
            CHECKS.due("count(9)", x.count(9), k + 1);
        }
        int[] wrong = {-1, 3, MIN, MAX};
        for (int k : wrong) {
            CHECKS.due("image(" + k + ")", x.image(k), -2);
            CHECKS.due("back(" + k + ")", x.back(k), -2);
        }
        CHECKS.due("people", x.coach(0, 0), 12);
        x = new CoachAhead();
        CHECKS.due("back(2) of a new one", x.back(2), -6);
        CHECKS.due("back(3) of a new one", x.back(3), -2);
    }

    private static void imageOfSixtyChanges() {
        CoachAhead x = Checks.of(EIGHT);
        for (int i = 1; i <= 60; i++) {
            x.set(0, 0, i);
        }
        x.image(2);
        for (int i = 0; i < 60; i++) {
            x.undo();
        }
        x.set(0, 0, 77);
        CHECKS.due("back(2)", x.back(2), 0);
        full(x);
        for (int i = 59; i >= 0; i--) {
            CHECKS.due("undo()", x.undo(), i);
            CHECKS.due("people", x.coach(0, 0), i);
        }
    }

    private static void imageOfNoTrain() {
        CoachAhead x = new CoachAhead();
        CHECKS.due("image(0)", x.image(0), 0);
        Checks.type(x, EIGHT);
        x.train();
        x.set(0, 0, 5);
        CHECKS.due("back(0)", x.back(0), 0);
        for (int what = 0; what <= 9; what++) {
            CHECKS.due("count(" + what + ")", x.count(what), 0);
        }
        CHECKS.due("undo()", x.undo(), -2);
        CHECKS.due("at(0, 0)", x.at(0, 0), -2);
    }

    private static void imageStaysAsItWas() {
        CoachAhead x = Checks.of(EIGHT);
        x.set(0, 0, 5);
        x.image(0);
        x.image(1);
        x.undo();
        x.set(1, 0, 6);
        x.set(2, 0, 7);
        x.send(0, 3);
        x.back(0);
        CHECKS.due("count(9)", x.count(9), 1);
        CHECKS.due("people", x.coach(1, 0), 0);
        x.undo();
        x.train();
        x.back(1);
        CHECKS.due("people", x.coach(0, 0), 5);
        CHECKS.due("undo()", x.undo(), 0);
        CHECKS.due("people", x.coach(0, 0), 0);
        x.image(1);
        x.back(0);
        CHECKS.due("count(9)", x.count(9), 1);
        x.back(1);
        CHECKS.due("count(9)", x.count(9), 0);
    }

    private static void backLeavesTheRest() {
        CoachAhead x = Checks.of(EIGHT);
        x.image(0);
        Checks.type(x, "train coaches 9");
        x.train();
        x.row(2, 0, 2);
        Checks.type(x, "abc");
        CHECKS.due("back(0)", x.back(0), 0);
        CHECKS.due("bytes", x.count(8), 3);
        CHECKS.due("SLOTS", x.count(10), 1);
        CHECKS.due("fault(0)", x.fault(0), 2);
        CHECKS.due("fault(1)", x.fault(1), 14);
        CHECKS.due("image(1)", x.image(1), 0);
        CHECKS.due("bytes", x.count(8), 3);
        CHECKS.due("SLOTS", x.count(10), 1);
    }
}
