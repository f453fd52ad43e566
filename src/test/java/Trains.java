/** Trains that several tests ride on. */
final class Trains {
    /**
     * The INSPECTOR is in 0, 1, 1, 1, 2, 3 and then gone; STOPS are in 3 and 6; COACHES 0 and 3 have
     * doors, COACH 1 has a LOO.
     */
    static final String FOUR = "train coaches 4 minutes 8 every 3 fare 3 fine 60;\n"
        + "coach 0 people 5 doors; coach 1 people 20 loo; coach 3 people 0 doors;\n"
        + "inspector at 0 up pace 10;\n"
        + "rider in 2 forward sees 1 looks 30;\n"
        + "rider in 1 loo sees 1 looks 50 ticket;\n"
        + "rider in 0 round sees 0 looks 50;\n"
        + "rider in 3 stay sees 7 looks 0;\n"
        + "day 1 odds 5; day 4 odds 50;\n";

    /** The INSPECTOR is in 0, 1, 0, 1, .. : nobody gets past it. */
    static final String SHUTTLE = "train coaches 2 minutes 6 every 20 fare 0 fine 0;\n"
        + "inspector at 0 up pace 1 turns;\n";

    /** No INSPECTORS, no RIDERS, one LINE. */
    static final String BARE = "train coaches 3 minutes 5 every 2 fare 7 fine 90;";

    private Trains() {
    }
}
