/** The edges of the draw in section 1, of section 2 and of the promises 12 to 19: a test for each sentence. */
public final class ConversionEdgeTest {
    private static final Class<?> INDEX = IndexOutOfBoundsException.class;
    private static final Class<?> ARGUMENT = IllegalArgumentException.class;
    private static final int[] FAR = {-1, Integer.MIN_VALUE, Integer.MAX_VALUE};

    private static final String C = "comparator 0 0;";
    /** Its codes are its inputs, from 0 to 7. */
    private static final String PLAIN = C + "weight 4 4 0;weight 2 2 0;weight 1 1 0;";

    public static void main(String[] args) {
        theDraw();
        sectionTwo();
        p12States();
        p13Inputs();
        p14Average();
        p14OneChange();
        p15Quiet();
        p16Spread();
        p16FromNowOn();
        p17Ends();
        p17CodeThenAndNow();
        p18Ends();
        p19ThresholdsAsTheyAre();
        p19KeptOnesAlone();
        Checks.end();
    }

    private static void due(String call, Object got, Object want) {
        Checks.due(call, got, want);
    }

    // ---- section 1: the draw

    private static void theDraw() {
        s1StateWrapsAround();
        s1StateRoundedDown();
        s1LeastAndGreatestNoise();
        s1NoDrawWithoutAmplitude();
        s1OneDrawForEachTrial();
        s1TenDraws();
    }

    private static TrialConverter single(int amplitude, int state) {
        TrialConverter x = Checks.loaded("comparator 0 " + amplitude + ";weight 1 1 0;");
        x.setNoise(state);
        return x;
    }

    private static void s1StateWrapsAround() {
        int[][] steps = {{0, 12345}, {1, 32422}, {2, 52499}, {3, 7040}, {65535, 57804}, {stateBefore(0), 0},
            {stateBefore(65535), 65535}, {stateBefore(1), 1}};
        for (int[] step : steps) {
            TrialConverter x = single(1, step[0]);
            x.convert(0);
            due("1: the state behind " + step[0], x.count(3), step[1]);
        }
        // 52499 is the last one below 65536, 72576 the first one above.
        due("1: 2 * 20077 + 12345", 2 * 20077 + 12345, 52499);
        due("1: 3 * 20077 + 12345 - 65536", 3 * 20077 + 12345 - 65536, 7040);
    }

    private static int stateBefore(int next) {
        for (int state = 0; state < 65536; state++) {
            if ((state * 20077L + 12345L) % 65536L == next) {
                return state;
            }
        }
        throw new IllegalStateException("no state goes to " + next);
    }

    private static int noiseOf(int amplitude, int drawnState) {
        TrialConverter x = single(amplitude, stateBefore(drawnState));
        x.convert(0);
        due("1: the state", x.count(3), drawnState);
        return x.trial(0, 0, 1);
    }

    private static void s1StateRoundedDown() {
        due("1: 0 of 16", noiseOf(1, 0), -1);
        due("1: 15 of 16", noiseOf(1, 15), -1);
        due("1: 16 of 16", noiseOf(1, 16), 0);
        due("1: 31 of 16", noiseOf(1, 31), 0);
        due("1: 32 of 16", noiseOf(1, 32), 1);
    }

    private static void s1LeastAndGreatestNoise() {
        due("1: the greatest of 1", noiseOf(1, 47), 1);
        due("1: around again", noiseOf(1, 48), -1);
        due("1: the least of 30", noiseOf(30, 15), -30);
        due("1: 0 of 30", noiseOf(30, 30 * 16), 0);
        due("1: the greatest of 30", noiseOf(30, 60 * 16 + 15), 30);
        due("1: around again of 30", noiseOf(30, 61 * 16), -30);
        // 4095 is 3 * 1365, 5 * 819 and 61 * 67 + 8.
        due("1: the greatest state, 1", noiseOf(1, 65535), -1);
        due("1: the greatest state, 2", noiseOf(2, 65535), -2);
        due("1: the greatest state, 30", noiseOf(30, 65535), -22);
        for (int amplitude = 1; amplitude <= 30; amplitude++) {
            due("1: least of " + amplitude, noiseOf(amplitude, 0), -amplitude);
            due("1: greatest of " + amplitude, noiseOf(amplitude, 2 * amplitude * 16 + 15), amplitude);
            due("1: least again of " + amplitude, noiseOf(amplitude, (2 * amplitude + 1) * 16), -amplitude);
        }
    }

    private static void s1NoDrawWithoutAmplitude() {
        TrialConverter x = single(0, 65535);
        x.convert(0);
        x.average(1, 16);
        x.spread(1, 16);
        due("1: the state stays", x.count(3), 65535);
        due("1: the noise is 0", x.trial(0, 0, 1), 0);
    }

    /** Each of ten weights has its own noise, also in the conversion before the latest one. */
    private static void s1TenDraws() {
        TrialConverter x = Checks.loaded("comparator 0 30;" + "weight 1 1 0;".repeat(10) + "seed 65535;");
        x.convert(500);
        x.convert(0);
        int state = 65535;
        for (int back = 1; back >= 0; back--) {
            for (int k = 0; k < 10; k++) {
                state = (int) ((state * 20077L + 12345L) % 65536L);
                due("1: noise " + k + " of " + back, x.trial(back, k, 1), state / 16 % 61 - 30);
            }
        }
        due("1: twenty draws", x.count(3), state);
    }

    private static void s1OneDrawForEachTrial() {
        TrialConverter x = Checks.loaded("comparator 0 30;comparator 0 0;comparator 0 1;weight 1 1 0;weight 1 1 1;"
                + "weight 1 1 2;weight 1 1 0;seed 65535;");
        x.convert(9999);
        int state = 65535;
        int[] amplitudes = {30, 0, 1, 30};
        for (int k = 0; k < 4; k++) {
            int n = amplitudes[k];
            state = n == 0 ? state : (int) ((state * 20077L + 12345L) % 65536L);
            due("1: noise of weight " + k, x.trial(0, k, 1), n == 0 ? 0 : state / 16 % (2 * n + 1) - n);
        }
        due("1: three draws", x.count(3), state);
    }

    // ---- section 2

    private static void sectionTwo() {
        s2AtLeastTheThreshold();
        s2WithOffset();
        s2OffsetOfItsComparator();
        s2WithNoise();
        s2Level();
        s2QuietNoise();
        s2LatestTwenty();
        s2NoisesOfTheLatestTwenty();
        s2KeptByConvertAndAverage();
    }

    private static void s2AtLeastTheThreshold() {
        TrialConverter x = Checks.loaded(C + "weight 4 4 0;weight 3 3 0;");
        int[] codes = {0, 0, 0, 3, 4, 4, 4, 7, 7};
        for (int input = 0; input < codes.length; input++) {
            due("2: input " + input, x.convert(input), codes[input]);
            due("2: quiet " + input, x.quiet(input), codes[input]);
        }
    }

    private static void s2WithOffset() {
        TrialConverter x = Checks.loaded("comparator 50 0;weight 512 512 0;");
        due("2: 461 + 50", x.convert(461), 0);
        due("2: 462 + 50", x.convert(462), 512);
        TrialConverter y = Checks.loaded("comparator -50 0;weight 512 512 0;");
        due("2: 561 - 50", y.convert(561), 0);
        due("2: 562 - 50", y.convert(562), 512);
        TrialConverter z = Checks.loaded("comparator 50 0;weight 1 50 0;weight 1 50 0;");
        due("2: 0 + 50, then below 100", z.convert(0), 1);
        TrialConverter below = Checks.loaded("comparator -1 0;weight 1 1 0;");
        due("2: 0 - 1", below.convert(0), 0);
        due("2: 1 - 1", below.convert(1), 0);
        due("2: 2 - 1", below.convert(2), 1);
    }

    /** Each weight is decided by its own comparator, the third one too. */
    private static void s2OffsetOfItsComparator() {
        int[] offsets = {3, -5, 40};
        for (int c = 0; c < 3; c++) {
            TrialConverter x = Checks.loaded("comparator 3 0;comparator -5 0;comparator 40 0;weight 100 100 " + c + ";");
            due("2: just below, comparator " + c, x.convert(99 - offsets[c]), 0);
            due("2: just at it, comparator " + c, x.convert(100 - offsets[c]), 100);
            due("2: quiet below, comparator " + c, x.quiet(99 - offsets[c]), 0);
            due("2: quiet at it, comparator " + c, x.quiet(100 - offsets[c]), 100);
        }
    }

    private static void s2WithNoise() {
        int greatest = stateBefore(60 * 16);
        int least = stateBefore(0);
        TrialConverter x = Checks.loaded("comparator 50 30;weight 512 512 0;");
        x.setNoise(greatest);
        due("2: 431 + 50 + 30", x.convert(431), 0);
        x.setNoise(greatest);
        due("2: 432 + 50 + 30", x.convert(432), 512);
        TrialConverter y = Checks.loaded("comparator -50 30;weight 512 512 0;");
        y.setNoise(least);
        due("2: 591 - 50 - 30", y.convert(591), 0);
        y.setNoise(least);
        due("2: 592 - 50 - 30", y.convert(592), 512);
    }

    private static void s2Level() {
        TrialConverter x = Checks.loaded(C + "weight 1 6 0;weight 1 3 0;weight 1 2 0;");
        x.convert(8);
        due("2: 0 at first", x.trial(0, 0, 0), 6);
        due("2: the threshold behind a 1", x.trial(0, 1, 0), 9);
        due("2: the same behind a 0", x.trial(0, 2, 0), 8);
        due("2: behind all", x.conversion(0, 3), 8);
        x.convert(0);
        due("2: 0 again", x.trial(0, 0, 0), 6);
        due("2: 0 behind a 0", x.trial(0, 1, 0), 3);
        due("2: no level", x.conversion(0, 3), 0);
    }

    /** The offsets are there, the noise is not. */
    private static void s2QuietNoise() {
        TrialConverter x = Checks.loaded("comparator 2 30;weight 8 8 0;weight 4 4 0;seed 65535;");
        due("2: 5 + 2 below 8", x.quiet(5), 4);
        due("2: 6 + 2 is 8", x.quiet(6), 8);
        due("2: 9 + 2 below 12", x.quiet(9), 8);
        due("2: 10 + 2 is 12", x.quiet(10), 12);
        due("2: the state stays", x.count(3), 65535);
    }

    private static void s2LatestTwenty() {
        TrialConverter x = Checks.loaded(PLAIN);
        for (int n = 0; n < 19; n++) {
            x.convert(100 + n);
        }
        due("2: 19", x.count(4), 19);
        Checks.dueThrow("2: no 20th yet", INDEX, () -> x.conversion(19, 0));
        x.convert(119);
        due("2: 20", x.count(4), 20);
        due("2: the first one", x.conversion(19, 0), 100);
        x.convert(120);
        due("2: 20 of 21", x.count(4), 20);
        due("2: the first one is gone", x.conversion(19, 0), 101);
        due("2: the latest", x.conversion(0, 0), 120);
        Checks.dueThrow("2: no 21st", INDEX, () -> x.conversion(20, 0));
        x.average(7, 16);
        for (int back = 0; back < 20; back++) {
            due("2: of an average and before, " + back, x.conversion(back, 0), back < 16 ? 7 : 136 - back);
        }
        due("2: all are counted", x.seen(7), 37);
        x.undo();
        due("2: the first of 20 is back", x.conversion(19, 0), 101);
        x.undo();
        due("2: the one before too", x.conversion(19, 0), 100);
        x.undo();
        due("2: 19 again", x.count(4), 19);
        due("2: the latest of 19", x.conversion(0, 0), 118);
    }

    /** The rows of those kept are used again, and an undoing has to bring back each noise in them. */
    private static void s2NoisesOfTheLatestTwenty() {
        TrialConverter x = Checks.loaded("comparator 0 30;" + "weight 9 30 0;".repeat(3) + "seed 65535;");
        x.average(30, 16);
        x.average(60, 4);
        String before = noises(x);
        String numbers = numbersOfTwenty(x);
        x.average(90, 16);
        x.average(90, 16);
        due("2: other noises", noises(x).equals(before), false);
        x.undo();
        x.undo();
        due("2: the noises of all 20", noises(x), before);
        due("2: the inputs, codes and bits of all 20", numbersOfTwenty(x), numbers);
    }

    /** The input, the code and the bits of each of the latest 20. */
    private static String numbersOfTwenty(TrialConverter x) {
        StringBuilder all = new StringBuilder();
        for (int back = 0; back < 20; back++) {
            for (int what = 0; what <= 2; what++) {
                all.append(x.conversion(back, what)).append(' ');
            }
        }
        return all.toString();
    }

    private static String noises(TrialConverter x) {
        StringBuilder all = new StringBuilder();
        for (int back = 0; back < 20; back++) {
            for (int k = 0; k < 3; k++) {
                all.append(x.trial(back, k, 1)).append(' ');
            }
        }
        return all.toString();
    }

    private static void s2KeptByConvertAndAverage() {
        TrialConverter x = Checks.loaded("comparator 0 3;weight 4 4 0;weight 3 3 0;weight 1 1 0;");
        x.quiet(3);
        x.spread(3, 16);
        x.calibrate(0, 16);
        x.calibrateAll(16);
        x.meanError();
        x.absorbs(0, true);
        due("2: none of them", x.count(4) + x.count(5) + x.count(6), 0);
        x.convert(3);
        due("2: of convert", x.count(4) * 10 + x.count(6), 11);
        x.average(3, 5);
        due("2: of average", x.count(4) * 10 + x.count(6), 66);
    }

    // ---- promises 12 to 16

    private static void p12States() {
        TrialConverter x = Checks.loaded(PLAIN + "seed 65535;");
        due("12: the seed", x.setNoise(0), 65535);
        due("12: 0", x.setNoise(65535), 0);
        due("12: 65535", x.setNoise(65535), 65535);
        due("12: it is the state", x.count(3), 65535);
        for (int to : new int[] {-1, 65536, Integer.MIN_VALUE, Integer.MAX_VALUE}) {
            Checks.dueThrow("12: " + to, ARGUMENT, () -> x.setNoise(to));
        }
        due("12: refused ones change nothing", x.count(3), 65535);
        due("12: the seed is not another one", x.undo() + x.undo() + x.undo(), 3 + 2 + 1);
        due("12: the seed again", x.count(3), 65535);
    }

    private static void p13Inputs() {
        TrialConverter x = Checks.loaded(PLAIN);
        due("13: 0", x.convert(0), 0);
        due("13: 9999", x.convert(9999), 7);
        for (int input : new int[] {-1, 10000, Integer.MIN_VALUE, Integer.MAX_VALUE}) {
            Checks.dueThrow("13: " + input, ARGUMENT, () -> x.convert(input));
        }
        due("13: two are kept", x.count(4) * 10 + x.count(6), 22);
        TrialConverter y = Checks.loaded(C + "weight 512 512 0;".repeat(10));
        for (int k = 0; k < 10; k++) {
            y.setTable(k, 1023);
        }
        due("13: the greatest code", y.convert(9999), 10230);
        due("13: by the range", y.convert(5120), 10230);
        due("13: one below the range", y.convert(5119), 9207);
        due("13: the greatest is counted", y.seen(10230), 2);
    }

    private static void p14Average() {
        TrialConverter x = Checks.loaded(PLAIN);
        due("14: 1", x.average(5, 1), 5f);
        due("14: 16", x.average(5, 16), 5f);
        due("14: 0", x.average(0, 16), 0f);
        due("14: 9999", x.average(9999, 16), 7f);
        due("14: each is kept", x.count(4), 20);
        due("14: each is counted", x.count(6), 49);
        for (int n : new int[] {0, 17, -1, Integer.MIN_VALUE, Integer.MAX_VALUE}) {
            Checks.dueThrow("14: conversions " + n, ARGUMENT, () -> x.average(5, n));
        }
        for (int input : new int[] {-1, 10000, Integer.MIN_VALUE, Integer.MAX_VALUE}) {
            Checks.dueThrow("14: input " + input, ARGUMENT, () -> x.average(input, 1));
            Checks.dueThrow("14: both " + input, ARGUMENT, () -> x.average(input, 0));
        }
        TrialConverter y = Checks.loaded("comparator 0 1;weight 1 1 0;seed 5;");
        // Noises -1, 0, 1: the input 1 gives 0, 1, 1. A double would be another number.
        float average = y.average(1, 3);
        due("14: divided as floats", average, 2f / 3f);
        due("14: no double", (double) average == 2.0 / 3.0, false);
        TrialConverter z = Checks.loaded(C + "weight 512 512 0;".repeat(10));
        for (int k = 0; k < 10; k++) {
            z.setTable(k, 1023);
        }
        due("14: the greatest", z.average(9999, 16), 10230f);
    }

    private static void p14OneChange() {
        TrialConverter x = Checks.loaded("comparator 0 5;weight 4 4 0;weight 2 2 0;seed 7;");
        TrialConverter y = Checks.loaded("comparator 0 5;weight 4 4 0;weight 2 2 0;seed 7;");
        String before = Whole.numbers(x);
        int sum = 0;
        for (int n = 0; n < 7; n++) {
            sum += y.convert(4);
        }
        due("14: as by convert", x.average(4, 7), (float) sum / 7f);
        due("14: all is the same", Whole.numbers(x), Whole.numbers(y));
        due("14: one change", x.undo(), 1);
        due("14: all of it is undone", Whole.numbers(x), before);
    }

    private static void p15Quiet() {
        Checks.Recipe recipe = () -> Checks.loaded("comparator 1 9;weight 4 4 0;weight 2 2 0;seed 7;");
        TrialConverter x = recipe.make();
        due("15: 0", x.quiet(0), 0);
        due("15: 9999", x.quiet(9999), 6);
        for (int input : new int[] {-1, 10000, Integer.MIN_VALUE, Integer.MAX_VALUE}) {
            Checks.dueThrow("15: " + input, ARGUMENT, () -> x.quiet(input));
        }
        Checks.changesNothing("15: quiet", recipe, one -> one.quiet(3));
        x.setTable(0, 1000);
        due("15: by the table as it is", x.quiet(9999), 1002);
    }

    private static void p16Spread() {
        Checks.Recipe recipe = () -> Checks.loaded("comparator 1 9;weight 4 4 0;weight 2 2 0;seed 7;");
        TrialConverter x = recipe.make();
        due("16: 1 alone", x.spread(4, 1), 0);
        due("16: 9999", x.spread(9999, 16), 0);
        due("16: 0", Checks.loaded(PLAIN).spread(0, 16), 0);
        // Noises -1, 0 and 1, -1: the input 0 has the bits 0, 0 and then 1, 0.
        due("16: 0 with noise", Checks.loaded("comparator 0 1;weight 1 1 0;weight 3 1 0;seed 5;").spread(0, 2), 1);
        for (int n : new int[] {0, 17, -1, Integer.MIN_VALUE, Integer.MAX_VALUE}) {
            Checks.dueThrow("16: conversions " + n, ARGUMENT, () -> x.spread(5, n));
        }
        for (int input : new int[] {-1, 10000, Integer.MIN_VALUE, Integer.MAX_VALUE}) {
            Checks.dueThrow("16: input " + input, ARGUMENT, () -> x.spread(input, 1));
        }
        Checks.changesNothing("16: spread", recipe, one -> one.spread(3, 16));
        TrialConverter y = Checks.loaded("comparator 0 1;" + "weight 512 1 0;".repeat(10) + "seed 5;");
        for (int k = 0; k < 10; k++) {
            y.setTable(k, 0);
        }
        due("16: of the code 0 alone", y.spread(1, 16), 0);
        for (int k = 0; k < 10; k++) {
            y.setTable(k, 1023);
        }
        due("16: of the greatest code alone", y.spread(9999, 16), 0);
    }

    /** The codes that convert would have from now on, and so again, for none of them is made. */
    private static void p16FromNowOn() {
        for (int n = 1; n <= 16; n++) {
            TrialConverter x = Checks.loaded("comparator 1 9;weight 40 4 0;weight 2 2 0;seed 65535;");
            TrialConverter y = Checks.loaded("comparator 1 9;weight 40 4 0;weight 2 2 0;seed 65535;");
            x.convert(5);
            y.convert(5);
            int least = Integer.MAX_VALUE;
            int greatest = Integer.MIN_VALUE;
            for (int one = 0; one < n; one++) {
                int code = y.convert(4);
                least = Math.min(least, code);
                greatest = Math.max(greatest, code);
            }
            due("16: of " + n, x.spread(4, n), greatest - least);
            due("16: again of " + n, x.spread(4, n), greatest - least);
        }
    }

    // ---- promises 17 to 19

    private static void p17Ends() {
        TrialConverter x = Checks.loaded(C + "weight 1 512 0;".repeat(10));
        Checks.dueThrow("17: none kept", INDEX, () -> x.conversion(0, 0));
        x.convert(9999);
        x.convert(0);
        int[] latest = {0, 0, 0, 0, 0};
        int[] before = {9999, 10, 1023, 5120, 10};
        for (int what = 0; what <= 4; what++) {
            due("17: no bits, " + what, x.conversion(0, what), latest[what]);
            due("17: all bits, " + what, x.conversion(1, what), before[what]);
        }
        for (int back : new int[] {-1, 2, Integer.MIN_VALUE, Integer.MAX_VALUE}) {
            Checks.dueThrow("17: back " + back, INDEX, () -> x.conversion(back, 0));
            Checks.dueThrow("17: back " + back + " ahead of what", INDEX, () -> x.conversion(back, 5));
        }
        for (int what : new int[] {-1, 5, Integer.MIN_VALUE, Integer.MAX_VALUE}) {
            Checks.dueThrow("17: what " + what, ARGUMENT, () -> x.conversion(0, what));
        }
        TrialConverter y = Checks.loaded("comparator 50 0;comparator -50 0;" + "weight 1 9 1;".repeat(9)
                + "weight 1 9 0;");
        y.convert(0);
        due("17: the bit of the weight 9", y.conversion(0, 2), 512);
        TrialConverter z = Checks.loaded("comparator 50 0;comparator -50 0;weight 1 9 0;" + "weight 1 9 1;".repeat(9));
        z.convert(0);
        due("17: the bit of the weight 0", z.conversion(0, 2), 1);
    }

    private static void p17CodeThenAndNow() {
        TrialConverter x = Checks.loaded(PLAIN);
        x.convert(5);
        x.setTable(0, 1023);
        x.convert(5);
        x.setTable(2, 0);
        due("17: then, at first", x.conversion(1, 1), 5);
        due("17: then, second", x.conversion(0, 1), 1024);
        due("17: now, at first", x.conversion(1, 4), 1023);
        due("17: now, second", x.conversion(0, 4), 1023);
        due("17: the level is of the actual weights", x.conversion(0, 3), 5);
        x.resetTable();
        due("17: now as at first", x.conversion(0, 4), 5);
        due("17: then as it was", x.conversion(0, 1), 1024);
        x.undo();
        due("17: now as before", x.conversion(0, 4), 1023);
    }

    private static void p18Ends() {
        TrialConverter x = Checks.loaded("comparator 3 30;" + "weight 1 512 0;".repeat(10) + "seed 1;");
        Checks.dueThrow("18: none kept", INDEX, () -> x.trial(0, 0, 0));
        x.convert(9999);
        x.setNoise(stateBefore(0));
        x.convert(0);
        due("18: the first threshold", x.trial(0, 0, 0), 512);
        due("18: the least noise", x.trial(0, 0, 1), -30);
        due("18: bit 0", x.trial(0, 0, 2), 0);
        due("18: the last threshold of no bits", x.trial(0, 9, 0), 512);
        due("18: the last threshold of all bits", x.trial(1, 9, 0), 5120);
        due("18: the last bit", x.trial(1, 9, 2), 1);
        for (int back : new int[] {-1, 2, Integer.MIN_VALUE, Integer.MAX_VALUE}) {
            Checks.dueThrow("18: back " + back, INDEX, () -> x.trial(back, 0, 0));
            Checks.dueThrow("18: back " + back + " ahead of what", INDEX, () -> x.trial(back, 0, 3));
        }
        for (int k : new int[] {-1, 10, Integer.MIN_VALUE, Integer.MAX_VALUE}) {
            Checks.dueThrow("18: weight " + k, INDEX, () -> x.trial(0, k, 0));
            Checks.dueThrow("18: weight " + k + " ahead of what", INDEX, () -> x.trial(0, k, 3));
        }
        for (int what : new int[] {-1, 3, Integer.MIN_VALUE, Integer.MAX_VALUE}) {
            Checks.dueThrow("18: what " + what, ARGUMENT, () -> x.trial(0, 0, what));
        }
        x.average(7, 16);
        x.average(8, 4);
        due("18: the oldest of 20", x.trial(19, 0, 0), 512);
        for (int far : FAR) {
            Checks.dueThrow("18: far " + far, INDEX, () -> x.trial(20, far, far));
        }
        x.undo();
        x.undo();
        due("18: undone, the noise is that of the 0", x.trial(0, 0, 1), -30);
    }

    /** An input that is just the threshold would have the bit 1 without offset and noise. */
    private static void p19ThresholdsAsTheyAre() {
        String two = ";weight 5 5 0;weight 9 9 1;";
        TrialConverter less = Checks.loaded("comparator -1 0;comparator 0 0" + two);
        less.convert(4);
        due("19: below it anyway", less.decidedWrong(), 0);
        less.convert(5);
        due("19: just the threshold, 1 less", less.decidedWrong(), 1);
        less.convert(6);
        due("19: 1 less is just the threshold", less.decidedWrong(), 1);
        TrialConverter more = Checks.loaded("comparator 1 0;comparator 0 0" + two);
        more.convert(3);
        due("19: 1 more is below it", more.decidedWrong(), 0);
        more.convert(4);
        due("19: 1 more is just the threshold", more.decidedWrong(), 1);
        more.convert(5);
        due("19: just the threshold anyway", more.decidedWrong(), 1);
        TrialConverter noisy = Checks.loaded("comparator 0 30;weight 5 5 0;");
        noisy.setNoise(stateBefore(0));
        noisy.convert(34);
        due("19: by noise", noisy.decidedWrong(), 1);
        noisy.setNoise(stateBefore(0));
        noisy.convert(35);
        due("19: noise is not enough", noisy.decidedWrong(), 1);
        // The second threshold is 5 + 3, for the first bit was 1; 4 + 4 makes it, 4 alone does not.
        TrialConverter both = Checks.loaded("comparator 4 0;weight 5 5 0;weight 3 3 0;");
        both.convert(4);
        due("19: both trials", both.decidedWrong(), 2);
        both.setTable(0, 900);
        due("19: not of the table", both.decidedWrong(), 2);
    }

    private static void p19KeptOnesAlone() {
        TrialConverter x = Checks.loaded("comparator 1 0;weight 5 5 0;");
        due("19: none kept", x.decidedWrong(), 0);
        x.convert(4);
        x.average(9, 16);
        x.average(9, 3);
        due("19: the oldest of 20", x.decidedWrong(), 1);
        x.convert(9);
        due("19: gone", x.decidedWrong(), 0);
        x.undo();
        due("19: back", x.decidedWrong(), 1);
        x.average(4, 16);
        x.average(4, 4);
        due("19: all 20", x.decidedWrong(), 20);
        x.calibrateAll(16);
        x.forget(1000);
        due("19: not of codes seen", x.decidedWrong(), 20);
        Checks.loadText(x, "comparator 1 0;weight 5 5 0;");
        due("19: none behind a load", x.decidedWrong(), 0);
        x.undo();
        due("19: all 20 again", x.decidedWrong(), 20);
    }
}
