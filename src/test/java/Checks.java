/** What the project's tests share: answers compared, texts fed, an exit code at the end. */
final class Checks {
    private int wrong;
    private int asked;

    void due(String call, long got, long want) {
        asked++;
        if (got != want) {
            wrong++;
            System.out.println(call + " answered " + got + ", due is " + want);
        }
    }

    void holds(String what, boolean right) {
        due(what, right ? 1 : 0, 1);
    }

    void close(String name) {
        System.out.println(name + ": " + asked + " answers, " + wrong + " wrong");
        if (wrong != 0 || asked == 0) {
            System.exit(1);
        }
    }

    /** Java's generator gives like first numbers for near seeds, so these are spread. */
    static java.util.Random randomOf(int seed) {
        return new java.util.Random((seed + 1) * 0x9E3779B97F4A7C15L);
    }

    /** Puts a text behind the TAPE: how many calls that took. */
    static int type(CoachAhead x, String text) {
        int before = x.count(8);
        int calls = 0;
        for (int i = 0; i < text.length(); i += 20) {
            x.feed(four(text, i), four(text, i + 4), four(text, i + 8), four(text, i + 12), four(text, i + 16));
            calls++;
        }
        x.end(before + text.length());
        return calls + 1;
    }

    private static int four(String text, int from) {
        int word = 0;
        for (int i = from; i < from + 4; i++) {
            word = word << 8 | (i < text.length() ? text.charAt(i) & 255 : 32);
        }
        return word;
    }

    /** A new object with a TRAIN by a text that has no FAULT. */
    static CoachAhead of(String text) {
        CoachAhead x = new CoachAhead();
        type(x, text);
        if (x.train() < 0) {
            throw new IllegalStateException("fault " + x.fault(0) + " at " + x.fault(1) + " in: " + text);
        }
        return x;
    }
}
