/** Promises 54 to 56, 60 and 61: changes made and taken back, IMAGES gone back to. */
public final class ChangeTest {
    private static final Checks CHECKS = new Checks();

    public static void main(String[] args) {
        changes();
        sixty();
        images();
        imagesOfNoTrain();
        wrongInputs();
        CHECKS.close("ChangeTest");
    }

    private static void changes() {
        CoachAhead x = Checks.of(Trains.FOUR);
        CHECKS.due("undo()", x.undo(), -5);
        CHECKS.due("set(1, 1, 0)", x.set(1, 1, 0), 1);
        CHECKS.due("coach(1, 1)", x.coach(1, 1), 0);
        CHECKS.due("had(1)", x.had(1), 1);
        CHECKS.due("send(0, 7)", x.send(0, 7), 0);
        CHECKS.due("inspector(0, 0)", x.inspector(0, 0), 3);
        CHECKS.due("inspector(0, 1)", x.inspector(0, 1), 1);
        CHECKS.due("at(0, 0)", x.at(0, 0), 3);
        CHECKS.due("at(0, 4)", x.at(0, 4), 1);
        CHECKS.due("set(1, 0, 0)", x.set(1, 0, 0), 20);
        CHECKS.due("stays(0, 1)", x.stays(0, 1), 1);
        CHECKS.due("at(0, 4)", x.at(0, 4), -1);
        CHECKS.due("set(2, 2, 1)", x.set(2, 2, 1), 0);
        CHECKS.due("coach(2, 2)", x.coach(2, 2), 1);
        CHECKS.due("set(2, 2, 1) again", x.set(2, 2, 1), 1);
        CHECKS.due("send(0, 2)", x.send(0, 2), 7);
        CHECKS.due("count(9)", x.count(9), 6);
        CHECKS.due("undo()", x.undo(), 5);
        CHECKS.due("inspector(0, 0)", x.inspector(0, 0), 3);
        CHECKS.due("undo()", x.undo(), 4);
        CHECKS.due("coach(2, 2)", x.coach(2, 2), 1);
        CHECKS.due("undo()", x.undo(), 3);
        CHECKS.due("coach(2, 2)", x.coach(2, 2), 0);
        CHECKS.due("undo()", x.undo(), 2);
        CHECKS.due("at(0, 4)", x.at(0, 4), 1);
        CHECKS.due("undo()", x.undo(), 1);
        CHECKS.due("at(0, 0)", x.at(0, 0), 0);
        CHECKS.due("undo()", x.undo(), 0);
        CHECKS.due("coach(1, 1)", x.coach(1, 1), 1);
        CHECKS.due("had(1)", x.had(1), -1);
        CHECKS.due("undo()", x.undo(), -5);
        CHECKS.due("count(9)", x.count(9), 0);
    }

    private static void sixty() {
        CoachAhead x = Checks.of(Trains.FOUR);
        for (int i = 0; i < 60; i++) {
            int got = i % 2 == 0 ? x.set(0, 0, i) : x.send(0, i % 8);
            CHECKS.holds("change " + i, got >= 0);
        }
        CHECKS.due("set()", x.set(0, 0, 1), -5);
        CHECKS.due("send()", x.send(0, 1), -5);
        CHECKS.due("set() of none such", x.set(4, 0, 1), -2);
        CHECKS.due("send() of none such", x.send(1, 1), -2);
        CHECKS.due("people", x.coach(0, 0), 58);
        CHECKS.due("count(9)", x.count(9), 60);
        CHECKS.due("undo()", x.undo(), 59);
        CHECKS.due("set()", x.set(0, 0, 99), 58);
        CHECKS.due("count(9)", x.count(9), 60);
        for (int i = 59; i >= 0; i--) {
            CHECKS.due("undo()", x.undo(), i);
        }
        CHECKS.due("people", x.coach(0, 0), 5);
        CHECKS.due("COACH", x.inspector(0, 0), 0);
    }

    private static void images() {
        CoachAhead x = Checks.of(Trains.FOUR);
        CHECKS.due("back(0)", x.back(0), -6);
        x.set(0, 0, 77);
        x.send(0, 6);
        CHECKS.due("image(1)", x.image(1), 0);
        x.undo();
        x.set(1, 1, 0);
        x.set(2, 1, 1);
        CHECKS.due("image(2)", x.image(2), 0);
        Checks.type(x, Trains.BARE);
        x.train();
        CHECKS.due("COACHES", x.count(0), 3);
        x.row(0, 0, 4);
        Checks.type(x, "abc");
        CHECKS.due("back(1)", x.back(1), 0);
        CHECKS.due("LINES", x.count(7), 11);
        CHECKS.due("people", x.coach(0, 0), 77);
        CHECKS.due("COACH", x.inspector(0, 0), 3);
        CHECKS.due("loo", x.coach(1, 1), 1);
        CHECKS.due("RIDERS", x.count(6), 4);
        CHECKS.due("day(4)", x.day(4), 50);
        CHECKS.due("changes", x.count(9), 2);
        CHECKS.due("SLOTS stay", x.count(10), 1);
        CHECKS.due("the TAPE stays", x.count(8), 3);
        CHECKS.due("undo()", x.undo(), 1);
        CHECKS.due("COACH", x.inspector(0, 0), 0);
        CHECKS.due("loo", x.coach(1, 1), 1);
        CHECKS.due("undo()", x.undo(), 0);
        CHECKS.due("people", x.coach(0, 0), 5);
        // The IMAGE is as it was kept, however often it is gone back to.
        CHECKS.due("back(1)", x.back(1), 0);
        CHECKS.due("people", x.coach(0, 0), 77);
        CHECKS.due("back(2)", x.back(2), 0);
        CHECKS.due("changes", x.count(9), 3);
        CHECKS.due("loo", x.coach(1, 1), 0);
        CHECKS.due("undo()", x.undo(), 2);
        CHECKS.due("loo", x.coach(2, 1), 0);
        CHECKS.due("image(1) in place of another", x.image(1), 0);
        x.undo();
        CHECKS.due("back(1)", x.back(1), 0);
        CHECKS.due("changes", x.count(9), 2);
        CHECKS.due("back(0)", x.back(0), -6);
    }

    private static void imagesOfNoTrain() {
        CoachAhead x = new CoachAhead();
        CHECKS.due("image(0)", x.image(0), 0);
        Checks.type(x, Trains.BARE);
        x.train();
        CHECKS.due("back(0)", x.back(0), 0);
        CHECKS.due("COACHES", x.count(0), 0);
        CHECKS.due("safe()", x.safe(), -2);
        CHECKS.due("fault(0)", x.fault(0), 0);
    }

    private static void wrongInputs() {
        CoachAhead x = Checks.of(Trains.FOUR);
        int[] wrong = {-1, 100, Integer.MIN_VALUE, Integer.MAX_VALUE};
        for (int w : wrong) {
            CHECKS.due("set", x.set(w, 0, 0), -2);
            CHECKS.due("set", x.set(0, w, 0), -2);
            CHECKS.due("set", x.set(0, 0, w), -2);
            CHECKS.due("set", x.set(0, 1, w), -2);
            CHECKS.due("send", x.send(w, 0), -2);
            CHECKS.due("send", x.send(0, w), -2);
            CHECKS.due("image", x.image(w), -2);
            CHECKS.due("back", x.back(w), -2);
        }
        CHECKS.due("set(4, 0, 0)", x.set(4, 0, 0), -2);
        CHECKS.due("set(0, 3, 0)", x.set(0, 3, 0), -2);
        CHECKS.due("set(0, 1, 2)", x.set(0, 1, 2), -2);
        CHECKS.due("set(0, 2, 2)", x.set(0, 2, 2), -2);
        CHECKS.due("send(1, 0)", x.send(1, 0), -2);
        CHECKS.due("send(0, 8)", x.send(0, 8), -2);
        CHECKS.due("image(3)", x.image(3), -2);
        CHECKS.due("back(3)", x.back(3), -2);
        CHECKS.due("count(9)", x.count(9), 0);
        CHECKS.due("set(3, 0, 99)", x.set(3, 0, 99), 0);
        x = new CoachAhead();
        CHECKS.due("set", x.set(0, 0, 0), -2);
        CHECKS.due("send", x.send(0, 0), -2);
        CHECKS.due("undo", x.undo(), -2);
    }
}
