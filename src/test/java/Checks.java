/** What the tests share: answers that are due, exceptions that are due, and texts that are loaded. */
final class Checks {
    interface Call {
        Object answer();
    }

    /** A call on any converter. */
    interface Asked {
        Object answer(TrialConverter x);
    }

    /** Makes a converter the same way each time. */
    interface Recipe {
        TrialConverter make();
    }

    static int wrong = 0;

    private Checks() {
    }

    static void due(String call, Object got, Object want) {
        if (!got.equals(want)) {
            wrong++;
            System.out.println(call + " answered " + got + ", due is " + want);
        }
    }

    /** The exception's class itself is due: one below it would be the machine's own. */
    static void dueThrow(String call, Class<?> want, Call made) {
        Object got = outcome(made);
        due(call, got, "throws " + want.getName());
    }

    /** A call that is refused throws the very exception that is due, and changes nothing. */
    static void refused(String call, Class<?> want, Recipe recipe, Asked made) {
        TrialConverter x = recipe.make();
        dueThrow(call, want, () -> made.answer(x));
        changesNothing(call, recipe, made);
    }

    /** A twin that the call was not made on answers all the same. */
    static void changesNothing(String call, Recipe recipe, Asked made) {
        for (Asked look : Whole.LOOKS) {
            TrialConverter asked = recipe.make();
            outcome(() -> made.answer(asked));
            due(call + " changes nothing", look.answer(asked), look.answer(recipe.make()));
        }
    }

    static Object outcome(Call made) {
        try {
            return made.answer();
        } catch (RuntimeException e) {
            return "throws " + e.getClass().getName();
        }
    }

    static int appendText(TrialConverter x, String text) {
        int length = 0;
        for (int at = 0; at < text.length(); at += 20) {
            length = x.append(four(text, at), four(text, at + 4), four(text, at + 8),
                    four(text, at + 12), four(text, at + 16));
        }
        return length;
    }

    static int loadText(TrialConverter x, String text) {
        appendText(x, text);
        return x.load(text.length());
    }

    static TrialConverter loaded(String text) {
        TrialConverter x = new TrialConverter();
        int answer = loadText(x, text);
        if (answer < 1) {
            throw new IllegalStateException("a test's own text is wrong: " + text);
        }
        return x;
    }

    /** A text that is read without an error. */
    static TrialConverter reads(String text, int weights) {
        TrialConverter x = new TrialConverter();
        due("'" + text + "'", loadText(x, text), weights);
        due("position of '" + text + "'", x.errorPosition(), -1);
        return x;
    }

    static void error(String text, int code, int position) {
        TrialConverter x = new TrialConverter();
        due("'" + text + "'", loadText(x, text), code);
        due("position of '" + text + "'", x.errorPosition(), position);
    }

    static int four(String text, int at) {
        int word = 0;
        for (int n = at; n < at + 4; n++) {
            word = word << 8 | (n < text.length() ? text.charAt(n) & 255 : ' ');
        }
        return word;
    }

    static void end() {
        System.out.println(wrong == 0 ? "all answers are as due" : wrong + " answers are not as due");
        if (wrong != 0) {
            System.exit(1);
        }
    }
}
