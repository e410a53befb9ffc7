/** The edges of section 3 and of the promises 8 to 11: a test for each sentence. */
public final class TableEdgeTest {
    private static final String C = "comparator 0 0;";
    /** Two weights of 1: the first one is measured by the second one alone. The noise is -1, 0 or 1. */
    private static final String PAIR = "comparator 0 1;weight 1 1 0;weight 1 1 0;";

    public static void main(String[] args) {
        sectionThree();
        p8Numbers();
        p8PreviousNumber();
        p9HowMany();
        p10Conversions();
        p11Order();
        p11HowMany();
        p11NoneCan();
        Checks.end();
    }

    private static void due(String call, Object got, Object want) {
        Checks.due(call, got, want);
    }

    private static void sectionThree() {
        s3AtLeastItsActualWeight();
        s3LastWeight();
        s3BehindItByActualWeights();
        s3InputsAndOrder();
        s3WeightsBehindItAlone();
        s3RoundedByHand();
        s3RoundedInAllCases();
        s3NotLessThanZero();
        s3NotMoreThanGreatest();
        s3NotKeptNotCounted();
        s3NoiseGoesOn();
        s3NoNoiseWithoutAmplitude();
    }

    private static void s3AtLeastItsActualWeight() {
        TrialConverter x = Checks.loaded(C + "weight 9 7 0;weight 4 4 0;weight 3 3 0;");
        due("3: exactly as much", x.calibrate(0, 1), 7);
        TrialConverter y = Checks.loaded(C + "weight 9 8 0;weight 4 4 0;weight 3 3 0;");
        Checks.dueThrow("3: one too little", IllegalStateException.class, () -> y.calibrate(0, 1));
        due("3: its number stays", y.weight(0, 3), 9);
        TrialConverter z = Checks.loaded(C + "weight 9 6 0;weight 4 4 0;weight 3 3 0;");
        // The input 6 is made by 4 alone, for 3 more are too much.
        due("3: one more than enough", z.calibrate(0, 1), 4);
    }

    private static void s3LastWeight() {
        TrialConverter x = Checks.loaded(C + "weight 1 1 0;weight 1 1 0;");
        due("3: the one before the last", x.calibrate(0, 1), 1);
        Checks.dueThrow("3: the last one", IllegalStateException.class, () -> x.calibrate(1, 1));
        Checks.dueThrow("3: the only one", IllegalStateException.class, () -> new TrialConverter().calibrate(0, 1));
    }

    /** Neither what is told of them nor the table makes a weight possible. */
    private static void s3BehindItByActualWeights() {
        TrialConverter x = Checks.loaded(C + "weight 1 8 0;weight 512 7 0;");
        x.setTable(1, 1023);
        Checks.dueThrow("3: told enough", IllegalStateException.class, () -> x.calibrate(0, 1));
        TrialConverter y = Checks.loaded(C + "weight 512 7 0;weight 1 7 0;");
        y.setTable(1, 0);
        due("3: told too little", y.calibrate(0, 1), 0);
    }

    /** With offsets the input is seen as another one, and 0 may have a code too. */
    private static void s3InputsAndOrder() {
        TrialConverter x = Checks.loaded("comparator 0 0;comparator 3 0;weight 6 6 0;weight 5 5 1;weight 3 3 1;");
        x.setTable(1, 100);
        x.setTable(2, 30);
        // 6 + 3 >= 5 and 6 + 3 >= 8; 0 + 3 < 5 and 0 + 3 >= 3: 130 less 30.
        due("3: the code of its weight less that of 0", x.calibrate(0, 7), 100);
    }

    private static void s3WeightsBehindItAlone() {
        TrialConverter x = Checks.loaded(C + "weight 4 4 0;weight 2 2 0;weight 1 1 0;weight 1 1 0;");
        x.setTable(0, 1000);
        x.setTable(1, 500);
        x.setTable(2, 20);
        x.setTable(3, 3);
        due("3: not by those ahead, nor by itself", x.calibrate(1, 2), 23);
        due("3: by the number that was measured", x.calibrate(0, 2), 46);
        due("3: others stay", x.count(7), 46 + 23 + 20 + 3);
    }

    private static void s3RoundedByHand() {
        TrialConverter x = Checks.loaded(C + "weight 1 1 0;weight 1 1 0;");
        x.setTable(1, 7);
        due("3: (2 * 7 + 1) / 2", x.calibrate(0, 1), 7);
        due("3: (2 * 112 + 16) / 32", x.calibrate(0, 16), 7);
        // 16 conversions whose d is 7 or 8 stand among all the cases below.
        TrialConverter y = Checks.loaded(PAIR + "seed 12;");
        y.setTable(1, 3);
        // Noises 0, 1 and 1, 0: d is 6 - 3.
        due("3: (2 * 3 + 2) / 4", y.calibrate(0, 2), 2);
    }

    /** The formula over many noises: halves, what is just below one, and differences below 0 are among them. */
    private static void s3RoundedInAllCases() {
        int halves = 0;
        int below = 0;
        int negative = 0;
        int most = 0;
        for (int n = 1; n <= 16; n++) {
            for (int seed = 0; seed < 65536; seed += 1021) {
                for (int number : new int[] {1, 2, 1023}) {
                    TrialConverter x = Checks.loaded(PAIR);
                    x.setTable(1, number);
                    x.setNoise(seed);
                    int d = number * (bitsOfPair(seed, 0, n, 1) - bitsOfPair(seed, n, n, 0));
                    int want = (int) Math.floor((2.0 * d + n) / (2.0 * n));
                    due("3: d " + d + ", n " + n, x.calibrate(0, n), Math.max(0, Math.min(1023, want)));
                    halves += d > 0 && 2 * d % (2 * n) == n ? 1 : 0;
                    below += d > 0 && 2 * d % (2 * n) == n - 1 ? 1 : 0;
                    negative += d < 0 ? 1 : 0;
                    most += d == 1023 * n ? 1 : 0;
                }
            }
        }
        due("3: halves, just below, negative and greatest were there",
                halves > 0 && below > 0 && negative > 0 && most > 0, true);
    }

    /** How many of some draws behind others make the weight of 1 a bit 1 at an input. */
    private static int bitsOfPair(int seed, int before, int draws, int input) {
        int bits = 0;
        for (int n = 1; n <= draws; n++) {
            int noise = noiseAfter(seed, before + n) / 16 % 3 - 1;
            bits += input + noise >= 1 ? 1 : 0;
        }
        return bits;
    }

    private static int noiseAfter(int seed, int draws) {
        long state = seed;
        for (int n = 0; n < draws; n++) {
            state = (state * 20077 + 12345) % 65536;
        }
        return (int) state;
    }

    private static void s3NotLessThanZero() {
        TrialConverter x = Checks.loaded(C + "weight 9 1 0;weight 1 1 0;");
        x.setTable(1, 0);
        due("3: exactly 0", x.calibrate(0, 16), 0);
        // 3 + 5 >= 8, then 3 + 4 < 12; 0 + 5 < 8, but 0 + 4 >= 4: the input 0 has the greater code.
        TrialConverter y = Checks.loaded("comparator 4 0;comparator 5 0;weight 3 3 0;weight 8 8 1;weight 4 4 0;");
        y.setTable(1, 0);
        for (int number : new int[] {0, 1, 9, 1023}) {
            y.setTable(2, number);
            due("3: 0 less " + number, y.calibrate(0, 1), 0);
            due("3: 0 less " + number + ", of 16", y.calibrate(0, 16), 0);
        }
        y.setTable(1, 3);
        y.setTable(2, 2);
        due("3: 3 less 2", y.calibrate(0, 1), 1);
        // Noises -1, -1 at the input 1: bits 0, 0. Noises 1, 0 at the input 0: bits 1, 0.
        TrialConverter z = Checks.loaded(PAIR + "seed 6;");
        due("3: half of -1", z.calibrate(0, 2), 0);
        z.setTable(1, 2);
        z.setNoise(6);
        due("3: -1", z.calibrate(0, 2), 0);
        z.setTable(1, 1023);
        z.setNoise(6);
        due("3: -511", z.calibrate(0, 2), 0);
    }

    private static void s3NotMoreThanGreatest() {
        TrialConverter x = Checks.loaded(C + "weight 1 2 0;weight 1 1 0;weight 1 1 0;");
        x.setTable(1, 1023);
        x.setTable(2, 0);
        due("3: exactly 1023", x.calibrate(0, 3), 1023);
        x.setTable(1, 1022);
        due("3: 1022", x.calibrate(0, 3), 1022);
        x.setTable(2, 2);
        due("3: 1024", x.calibrate(0, 3), 1023);
        x.setTable(1, 1023);
        x.setTable(2, 1023);
        due("3: 2046", x.calibrate(0, 16), 1023);
    }

    private static void s3NotKeptNotCounted() {
        TrialConverter x = Checks.loaded(PAIR + "seed 9;");
        x.calibrate(0, 16);
        x.calibrateAll(16);
        due("3: none kept", x.count(4), 0);
        due("3: none counted", x.count(5) + x.count(6), 0);
        x.convert(1);
        String before = x.conversion(0, 0) + " " + x.conversion(0, 1) + " " + x.trial(0, 1, 1) + " " + x.count(6);
        x.calibrate(0, 16);
        x.calibrateAll(16);
        due("3: those kept stay", x.conversion(0, 0) + " " + x.conversion(0, 1) + " " + x.trial(0, 1, 1) + " "
                + x.count(6), before);
    }

    /** A draw for each trial behind the weight: 2 * n conversions of them. */
    private static void s3NoiseGoesOn() {
        for (int n = 1; n <= 16; n++) {
            TrialConverter x = Checks.loaded("comparator 0 1;comparator 0 0;weight 1 1 0;weight 1 1 0;weight 1 1 1;"
                    + "weight 1 1 0;seed 65535;");
            x.calibrate(1, n);
            due("3: one of two behind it draws, " + n, x.count(3), noiseAfter(65535, 2 * n));
            x.setNoise(0);
            x.calibrate(0, n);
            due("3: two of three behind it draw, " + n, x.count(3), noiseAfter(0, 4 * n));
        }
    }

    private static void s3NoNoiseWithoutAmplitude() {
        TrialConverter x = Checks.loaded("comparator 0 0;comparator 0 30;weight 1 1 1;weight 1 1 0;weight 1 1 0;seed 5;");
        x.calibrate(0, 16);
        due("3: the weight itself draws nothing", x.count(3), 5);
        x.calibrateAll(16);
        due("3: all without amplitude", x.count(3), 5);
    }

    private static void p8Numbers() {
        TrialConverter x = Checks.loaded(C + "weight 5 5 0;" + "weight 1 1 0;".repeat(9));
        for (int k : new int[] {0, 9}) {
            for (int to : new int[] {0, 1, 1022, 1023}) {
                x.setTable(k, to);
                due("8: number " + k, x.weight(k, 3), to);
            }
        }
        due("8: the others stay", x.count(7), 1023 + 8 + 1023);
        due("8: told stays", x.weight(0, 0), 5);
        due("8: actual stays", x.weight(0, 1), 5);
        for (int to : new int[] {-1, 1024, Integer.MIN_VALUE, Integer.MAX_VALUE}) {
            Checks.dueThrow("8: to " + to, IllegalArgumentException.class, () -> x.setTable(0, to));
        }
        for (int k : new int[] {-1, 10, Integer.MIN_VALUE, Integer.MAX_VALUE}) {
            Checks.dueThrow("8: weight " + k, IndexOutOfBoundsException.class, () -> x.setTable(k, 0));
        }
        due("8: refused ones change nothing", x.count(7), 1023 + 8 + 1023);
    }

    private static void p8PreviousNumber() {
        TrialConverter x = Checks.loaded(C + "weight 5 6 0;");
        due("8: the told one at first", x.setTable(0, 0), 5);
        due("8: 0", x.setTable(0, 1023), 0);
        due("8: 1023", x.setTable(0, 1023), 1023);
        x.undo();
        x.undo();
        due("8: behind undo", x.setTable(0, 1), 0);
        TrialConverter y = Checks.loaded(C + "weight 5 6 0;".repeat(10));
        for (int k = 0; k < 10; k++) {
            due("8: told, weight " + k, y.setTable(k, 100 + k), 5);
            y.undo();
            due("8: told behind undo, weight " + k, y.setTable(k, 100 + k), 5);
        }
        due("8: all ten", y.count(7), 1000 + 45);
    }

    private static void p9HowMany() {
        TrialConverter x = Checks.loaded(C + "weight 5 6 0;".repeat(10));
        due("9: none", x.resetTable(), 0);
        for (int k = 0; k < 10; k++) {
            x.setTable(k, k == 3 ? 5 : k);
        }
        // The weight 5 has its 5 again.
        due("9: all but two", x.resetTable(), 8);
        for (int k = 0; k < 10; k++) {
            x.setTable(k, 1023);
        }
        due("9: all", x.resetTable(), 10);
        due("9: then none", x.resetTable(), 0);
        due("9: the told ones", x.count(7), 50);
        x.convert(60);
        x.setNoise(8);
        x.resetTable();
        due("9: the noise state stays", x.count(3), 8);
        due("9: conversions stay", x.count(4) + x.count(6), 2);
    }

    private static void p10Conversions() {
        TrialConverter x = Checks.loaded(C + "weight 9 1 0;weight 1 1 0;");
        due("10: 1", x.calibrate(0, 1), 1);
        x.resetTable();
        due("10: 16", x.calibrate(0, 16), 1);
        for (int n : new int[] {0, 17, -1, Integer.MIN_VALUE, Integer.MAX_VALUE}) {
            Checks.dueThrow("10: " + n, IllegalArgumentException.class, () -> x.calibrate(0, n));
            Checks.dueThrow("10: " + n + ", ahead of the state", IllegalArgumentException.class,
                    () -> x.calibrate(1, n));
            Checks.dueThrow("10: " + n + ", behind the weight", IndexOutOfBoundsException.class,
                    () -> x.calibrate(2, n));
            Checks.dueThrow("10: " + n + ", behind the weight -1", IndexOutOfBoundsException.class,
                    () -> x.calibrate(-1, n));
        }
        for (int k : new int[] {-1, 2, Integer.MIN_VALUE, Integer.MAX_VALUE}) {
            Checks.dueThrow("10: weight " + k, IndexOutOfBoundsException.class, () -> x.calibrate(k, 1));
        }
    }

    /** From the last one to the first one: the first one is measured by numbers that were measured just before. */
    private static void p11Order() {
        TrialConverter x = Checks.loaded("comparator 0 1;" + "weight 9 1 0;".repeat(4) + "seed 77;");
        TrialConverter y = Checks.loaded("comparator 0 1;" + "weight 9 1 0;".repeat(4) + "seed 77;");
        x.calibrateAll(5);
        y.calibrate(2, 5);
        y.calibrate(1, 5);
        y.calibrate(0, 5);
        due("11: as one behind the other", Whole.held(x), Whole.held(y));
        due("11: it draws", x.count(3), noiseAfter(77, 2 * 5 * (1 + 2 + 3)));
        due("11: but is one change", x.undo(), 1);
        due("11: of three", y.undo(), 3);
        for (int n : new int[] {0, 17, -1, Integer.MIN_VALUE, Integer.MAX_VALUE}) {
            Checks.dueThrow("11: " + n, IllegalArgumentException.class, () -> x.calibrateAll(n));
        }
        due("11: 16", x.calibrateAll(16) >= 0, true);
    }

    private static void p11HowMany() {
        TrialConverter x = Checks.loaded(C + "weight 9 1 0;".repeat(9) + "weight 1 1 0;");
        due("11: all but the last", x.calibrateAll(1), 9);
        due("11: all are 1", x.count(7), 10);
        due("11: none any more", x.calibrateAll(1), 0);
        x.setTable(4, 2);
        // It is measured anew, and is then as all the others, that are what they were.
        due("11: one", x.calibrateAll(16), 1);
    }

    private static void p11NoneCan() {
        TrialConverter x = Checks.loaded(C + "weight 5 5 0;weight 4 4 0;seed 3;");
        due("11: none can", x.calibrateAll(16), 0);
        due("11: a change all the same", x.undo(), 1);
        TrialConverter y = new TrialConverter();
        due("11: the only one cannot", y.calibrateAll(1), 0);
        due("11: a change too", y.undo(), 0);
        TrialConverter z = Checks.loaded(C + "weight 2 9 0;weight 2 1 0;weight 5 1 0;");
        due("11: one of three can", z.calibrateAll(1), 1);
        due("11: the one that can", z.weight(1, 3), 5);
        due("11: the first stays", z.weight(0, 3), 2);
    }
}
