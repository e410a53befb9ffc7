import java.util.List;

/**
 * All that can be asked of a converter, as texts. A look that spends its converter needs one made for it, and the
 * greatest look makes some 450 calls, for nothing is promised behind the 512th.
 */
final class Whole {
    static final List<Checks.Asked> LOOKS = List.of(Whole::numbers, Whole::undone, Whole::slots, Whole::buffer);

    private Whole() {
    }

    /** What undo brings back, and what it does not. */
    static String numbers(TrialConverter x) {
        return held(x) + trials(x) + ramp(x) + " position " + x.errorPosition() + " written " + written(x);
    }

    /** What undo brings back, but for the trials. */
    static String held(TrialConverter x) {
        StringBuilder all = new StringBuilder();
        for (int what = 0; what <= 8; what++) {
            all.append(x.count(what)).append(' ');
        }
        int weights = x.count(1);
        int kept = x.count(4);
        int seen = x.count(5);
        for (int k = 0; k < weights; k++) {
            all.append(x.weight(k, 3)).append(' ');
        }
        for (int back = 0; back < kept; back++) {
            all.append(x.conversion(back, 1)).append(' ');
        }
        for (int place = 0; place < seen; place++) {
            int code = x.seenAt(place);
            all.append(code).append('*').append(x.seen(code)).append(' ');
        }
        return all.toString();
    }

    private static String trials(TrialConverter x) {
        StringBuilder all = new StringBuilder(" trials ").append(x.decidedWrong()).append(' ');
        int comparators = x.count(0);
        int weights = x.count(1);
        int kept = x.count(4);
        for (int c = 0; c < comparators; c++) {
            for (int what = 0; what <= 2; what++) {
                all.append(x.comparator(c, what)).append(' ');
            }
        }
        for (int k = 0; k < weights; k++) {
            for (int what = 0; what <= 5; what++) {
                all.append(x.weight(k, what)).append(' ');
            }
        }
        for (int back = 0; back < kept; back++) {
            all.append(x.conversion(back, 0)).append(':').append(x.conversion(back, 2)).append(' ');
            for (int k = 0; k < weights; k++) {
                all.append(x.trial(back, k, 0)).append(',').append(x.trial(back, k, 1)).append(' ');
            }
        }
        return all.toString();
    }

    private static String ramp(TrialConverter x) {
        return " ramp " + x.codes() + ' ' + x.missing() + ' ' + x.widest() + ' ' + x.stepsBack() + ' '
                + x.worstInput() + ' ' + x.meanError() + ' ' + x.risingFrom();
    }

    static String written(TrialConverter x) {
        StringBuilder text = new StringBuilder();
        // No text that is written is as long as 20 bytes.
        for (int n = 0; n < 20; n++) {
            int index = n;
            Object one = Checks.outcome(() -> x.writtenByte(index));
            text.append(one instanceof Integer ? String.valueOf((char) (int) one) : "");
        }
        return text.toString();
    }

    static String undone(TrialConverter x) {
        StringBuilder all = new StringBuilder();
        // One more than the eight changes that can be undone: the last answer is the exception.
        for (int n = 0; n < 9; n++) {
            all.append(Checks.outcome(x::undo)).append(' ').append(held(x)).append('\n');
        }
        return all.toString();
    }

    static String slots(TrialConverter x) {
        StringBuilder all = new StringBuilder();
        for (int n = 0; n <= 1; n++) {
            int slot = n;
            all.append(Checks.outcome(() -> x.restore(slot))).append(' ').append(held(x)).append('\n');
        }
        return all.toString();
    }

    static String buffer(TrialConverter x) {
        Object length = Checks.outcome(() -> x.append(0, 0, 0, 0, 0));
        int filled = length instanceof Integer ? (int) length - 20 : 400;
        return length + " " + x.load(filled) + " " + x.errorPosition() + " " + held(x);
    }
}
