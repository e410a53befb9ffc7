/** What the tests share: answers that are due, exceptions that are due, and texts that are loaded. */
final class Checks {
    interface Call {
        Object answer();
    }

    static int wrong = 0;

    private Checks() {
    }

    static void due(String call, Object got, Object want) {
        if (!got.equals(want)) {
            wrong++;
            System.out.println(call + " answered " + got + ", due is " + want);
        }
    }

    /** The exception's class itself is due: one below it would be the machine's own. */
    static void dueThrow(String call, Class<?> want, Call made) {
        Object got = outcome(made);
        due(call, got, "throws " + want.getName());
    }

    static Object outcome(Call made) {
        try {
            return made.answer();
        } catch (RuntimeException e) {
            return "throws " + e.getClass().getName();
        }
    }

    static int appendText(TrialConverter x, String text) {
        int length = 0;
        for (int at = 0; at < text.length(); at += 20) {
            length = x.append(four(text, at), four(text, at + 4), four(text, at + 8),
                    four(text, at + 12), four(text, at + 16));
        }
        return length;
    }

    static int loadText(TrialConverter x, String text) {
        appendText(x, text);
        return x.load(text.length());
    }

    static TrialConverter loaded(String text) {
        TrialConverter x = new TrialConverter();
        int answer = loadText(x, text);
        if (answer < 1) {
            throw new IllegalStateException("a test's own text is wrong: " + text);
        }
        return x;
    }

    static int four(String text, int at) {
        int word = 0;
        for (int n = at; n < at + 4; n++) {
            word = word << 8 | (n < text.length() ? text.charAt(n) & 255 : ' ');
        }
        return word;
    }

    static void end() {
        System.out.println(wrong == 0 ? "all answers are as due" : wrong + " answers are not as due");
        if (wrong != 0) {
            System.exit(1);
        }
    }
}
