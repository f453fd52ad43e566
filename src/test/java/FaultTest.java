import java.util.ArrayList;
import java.util.List;
import java.util.Random;

/** Texts spoilt at random, from fixed seeds: train() and fault() against a second reading of Term I. */
public final class FaultTest {
    private static final Checks CHECKS = new Checks();
    private static final String[] WORDS = {"train", "coaches", "minutes", "every", "fare", "fine", "coach", "people",
        "loo", "doors", "inspector", "at", "up", "down", "pace", "knocks", "turns", "rider", "in", "stay", "forward",
        "round", "sees", "looks", "ticket", "day", "odds", ";", "0", "1", "7", "8", "40", "41", "100", "101", "abc",
        "%", "12345678901"};

    record Token(String text, int place) { }

    /** Reads on until the first FAULT; then nothing more is taken. */
    private static final class Reading {
        final List<Token> tokens;
        int next;
        int fault;
        int place = -1;
        int lines;

        Reading(String text) {
            tokens = tokensOf(text);
            int coaches = line("train", "coaches 2 8", "minutes 1 40", "every 1 20", "fare 0 99", "fine 0 999", ";") ? 1 : 0;
            int last = coaches == 0 ? 0 : Integer.parseInt(tokens.get(2).text) - 1;
            int inspectors = 0;
            int riders = 0;
            while (fault == 0 && !peek().isEmpty()) {
                switch (peek()) {
                    case "coach":
                        line("coach 0 " + last, "people 0 99", "*loo doors", ";");
                        break;
                    case "inspector":
                        if (++inspectors > 3) {
                            refuse(3);
                        }
                        line("inspector", "at 0 " + last, "|up down", "pace 1 20", "*turns knocks:0:100", ";");
                        break;
                    case "rider":
                        if (++riders > 6) {
                            refuse(3);
                        }
                        line("rider", "in 0 " + last, "|stay forward loo round", "sees 0 7", "looks 0 100", "*ticket", ";");
                        break;
                    case "day":
                        line("day 0 6", "odds 0 100", ";");
                        break;
                    default:
                        refuse(1);
                        break;
                }
            }
        }

        /** Parts: a word; a word and bounds of the number behind it; | one of; * MARKS, each once. */
        boolean line(String... parts) {
            if (peek().isEmpty()) {
                return false;
            }
            for (String part : parts) {
                if (part.startsWith("*")) {
                    marks(new ArrayList<>(List.of(part.substring(1).split(" "))));
                } else if (part.startsWith("|")) {
                    take(List.of(part.substring(1).split(" ")).contains(peek()) ? 0 : 1);
                } else {
                    String[] words = part.split(" ");
                    take(words[0].equals(peek()) ? 0 : 1);
                    if (words.length == 3) {
                        number(words[1], words[2]);
                    }
                }
            }
            lines += fault == 0 ? 1 : 0;
            return fault == 0;
        }

        void marks(List<String> left) {
            boolean found = true;
            while (found && fault == 0) {
                found = false;
                for (int i = 0; i < left.size(); i++) {
                    String[] words = left.get(i).split(":");
                    if (words[0].equals(peek())) {
                        found = true;
                        left.remove(i);
                        take(0);
                        if (words.length == 3) {
                            number(words[1], words[2]);
                        }
                        break;
                    }
                }
            }
        }

        void number(String least, String most) {
            if (!peek().matches("[0-9]+")) {
                refuse(1);
                return;
            }
            java.math.BigInteger n = new java.math.BigInteger(peek());
            boolean good = n.compareTo(new java.math.BigInteger(least)) >= 0
                && n.compareTo(new java.math.BigInteger(most)) <= 0;
            take(good ? 0 : 2);
        }

        String peek() {
            return tokens.get(next).text;
        }

        void take(int wrong) {
            if (wrong != 0) {
                refuse(wrong);
            } else if (fault == 0) {
                next++;
            }
        }

        void refuse(int wrong) {
            if (fault == 0) {
                fault = wrong;
                place = tokens.get(next).place;
            }
        }
    }

    private static List<Token> tokensOf(String text) {
        List<Token> tokens = new ArrayList<>();
        java.util.regex.Matcher m = java.util.regex.Pattern.compile("[a-z]+|[0-9]+|[^ \n]").matcher(text);
        while (m.find()) {
            tokens.add(new Token(m.group(), m.start()));
        }
        tokens.add(new Token("", text.length()));
        return tokens;
    }

    public static void main(String[] args) {
        int[] seen = new int[4];
        for (int seed = 0; seed < 6000; seed++) {
            Random random = Checks.randomOf(seed);
            String text = spoil(goodText(random), random);
            if (text.length() <= 1200) {
                seen[compare(text)]++;
            }
        }
        cutAtEachByte();
        eachTokenAsAnother();
        for (int fault = 0; fault < 4; fault++) {
            CHECKS.holds("FAULT " + fault + " was among them", seen[fault] > 20);
        }
        CHECKS.close("FaultTest");
    }

    /** The FAULT that is due. */
    private static int compare(String text) {
        Reading due = new Reading(text);
        CoachAhead x = Checks.of(Trains.BARE);
        Checks.type(x, text);
        CHECKS.due("train() of " + text, x.train(), due.fault == 0 ? due.lines : -4);
        CHECKS.due("fault(0) of " + text, x.fault(0), due.fault);
        CHECKS.due("fault(1) of " + text, x.fault(1), due.place);
        CHECKS.due("LINES of " + text, x.count(7), due.fault == 0 ? due.lines : 1);
        return due.fault;
    }

    /** Each form that a LINE can have, with as many INSPECTORS and RIDERS as there may be. */
    private static final String ALL_FORMS = "train coaches 8 minutes 40 every 20 fare 99 fine 999; coach 7 people 99 loo doors;\n"
        + "coach 0 people 0 doors loo; coach 1 people 1; inspector at 7 down pace 20 turns knocks 100;\n"
        + "inspector at 0 up pace 1 knocks 0 turns; inspector at 3 up pace 5; rider in 7 stay sees 7 looks 100 ticket;\n"
        + "rider in 0 forward sees 0 looks 0; rider in 1 loo sees 1 looks 1; rider in 2 round sees 2 looks 2;\n"
        + "rider in 3 stay sees 3 looks 3; rider in 4 stay sees 4 looks 4; day 6 odds 100; day 0 odds 0;\n";

    private static void cutAtEachByte() {
        for (int n = 0; n <= ALL_FORMS.length(); n++) {
            compare(ALL_FORMS.substring(0, n));
            compare(ALL_FORMS.substring(0, n) + " \n");
        }
    }

    private static void eachTokenAsAnother() {
        for (Token token : tokensOf(ALL_FORMS)) {
            String front = ALL_FORMS.substring(0, token.place);
            String back = ALL_FORMS.substring(token.place + token.text.length());
            compare(front + back);
            for (String word : WORDS) {
                compare(front + word + " " + back);
                compare(front + word + " " + token.text + back);
            }
        }
    }

    private static String goodText(Random random) {
        StringBuilder text = new StringBuilder("train coaches 8 minutes 8 every 3 fare 3 fine 60;");
        int lines = random.nextInt(14);
        String[] rules = {"stay", "forward", "loo", "round"};
        for (int i = 0; i < lines; i++) {
            switch (random.nextInt(4)) {
                case 0:
                    text.append("coach ").append(random.nextInt(8)).append(" people ").append(random.nextInt(100))
                        .append(random.nextBoolean() ? " loo" : "").append(random.nextBoolean() ? " doors" : "");
                    break;
                case 1:
                    text.append("inspector at ").append(random.nextInt(8)).append(random.nextBoolean() ? " up" : " down")
                        .append(" pace ").append(1 + random.nextInt(20)).append(random.nextBoolean() ? " knocks 5" : "")
                        .append(random.nextBoolean() ? " turns" : "");
                    break;
                case 2:
                    text.append("rider in ").append(random.nextInt(8)).append(" ").append(rules[random.nextInt(4)])
                        .append(" sees ").append(random.nextInt(8)).append(" looks ").append(random.nextInt(101))
                        .append(random.nextBoolean() ? " ticket" : "");
                    break;
                default:
                    text.append("day ").append(random.nextInt(7)).append(" odds ").append(random.nextInt(101));
                    break;
            }
            text.append(random.nextBoolean() ? ";" : " ;\n");
        }
        return text.toString();
    }

    private static String spoil(String text, Random random) {
        List<Token> tokens = tokensOf(text);
        Token token = tokens.get(random.nextInt(tokens.size()));
        int end = token.place + token.text.length();
        String other = WORDS[random.nextInt(WORDS.length)];
        switch (random.nextInt(8)) {
            case 0:
                return text;
            case 1:
                return text.substring(0, token.place) + text.substring(end);
            case 2:
                return text.substring(0, token.place) + " " + other + " " + text.substring(token.place);
            case 3:
            case 4:
                return text.substring(0, token.place) + other + text.substring(end);
            case 5:
                return text.substring(0, random.nextInt(text.length() + 1));
            case 6:
                return text.substring(0, token.place) + (char) random.nextInt(256) + text.substring(token.place);
            default:
                return text.substring(0, end) + " " + token.text + text.substring(end);
        }
    }
}
