import java.util.NoSuchElementException;

/** The program of README.md; ReadmeTest looks whether both tell the same. */
public final class Example {
    public static void main(String[] args) {
        TrialConverter x = new TrialConverter();
        System.out.println("weights at first: " + x.count(1));

        // A text with an error changes nothing: the amplitude 31 is too much, and stands at the byte 13.
        System.out.println("wrong text: " + load(x, "comparator 0 31;") + " at " + x.errorPosition());

        System.out.println("weights: " + load(x, "comparator 0 0; comparator -2 1; weight 8 9 1; weight 4 4 0;"
                + " weight 3 3 0; weight 2 2 0; weight 1 1 0; seed 5;"));
        System.out.println("range: " + x.count(2) + ", noise state: " + x.count(3));
        System.out.println("told: " + x.weight(0, 0) + ", actual: " + x.weight(0, 1) + ", offset: " + x.comparator(1, 0));

        System.out.println("code of 10: " + x.convert(10));
        System.out.println("written: " + written(x, x.writeConversion(0)));
        System.out.println("threshold: " + x.trial(0, 0, 0) + ", noise: " + x.trial(0, 0, 1) + ", bit: " + x.trial(0, 0, 2));
        System.out.println("without noise: " + x.quiet(10) + ", spread of the next 4: " + x.spread(10, 4));
        System.out.println("mean of 4: " + x.average(10, 4) + ", most often: " + x.mostSeen());

        System.out.println("mean error: " + x.meanError() + ", worst at: " + x.worstInput());
        x.save(0);
        System.out.println("calibrated: " + x.calibrate(0, 16));
        System.out.println("mean error: " + x.meanError() + ", worst at: " + x.worstInput());
        System.out.println("absorbed: " + x.absorbs(0, false) + ", missing: " + x.missing());

        System.out.println("changes left behind undo: " + x.undo() + ", number: " + x.weight(0, 3));
        System.out.println("sum behind restore: " + x.restore(0));
        try {
            x.inputFor(1000);
        } catch (NoSuchElementException e) {
            System.out.println("no input has a code of 1000 or more");
        }
    }

    /** Appends a text, 20 bytes by each call and spaces behind its end, and loads it. */
    static int load(TrialConverter x, String text) {
        for (int at = 0; at < text.length(); at += 20) {
            x.append(four(text, at), four(text, at + 4), four(text, at + 8), four(text, at + 12), four(text, at + 16));
        }
        return x.load(text.length());
    }

    /** Four bytes of a text as one number, the first of them the most significant. */
    static int four(String text, int at) {
        int number = 0;
        for (int n = at; n < at + 4; n++) {
            number = number << 8 | (n < text.length() ? text.charAt(n) : ' ');
        }
        return number;
    }

    static String written(TrialConverter x, int length) {
        StringBuilder text = new StringBuilder();
        for (int n = 0; n < length; n++) {
            text.append((char) x.writtenByte(n));
        }
        return text.toString();
    }
}
