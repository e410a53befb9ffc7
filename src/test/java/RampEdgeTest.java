import java.util.NoSuchElementException;

/** The edges of section 4 and of the promises 24 to 34: a test for each sentence. */
public final class RampEdgeTest {
    private static final Class<?> INDEX = IndexOutOfBoundsException.class;
    private static final Class<?> ELEMENT = NoSuchElementException.class;
    private static final int LEAST = Integer.MIN_VALUE;
    private static final int GREATEST = Integer.MAX_VALUE;

    private static final String C = "comparator 0 0;";
    /** Its codes are its inputs, from 0 to 7. */
    private static final String PLAIN = C + "weight 4 4 0;weight 2 2 0;weight 1 1 0;";
    /** All its 19 codes are 1024, for the offset is above all thresholds. */
    private static final String FLAT = "comparator 50 0;weight 512 9 0;weight 512 9 0;";
    /** Its codes are 1, 2, 3 and 3. */
    private static final String AHEAD = "comparator 1 0;weight 2 2 0;weight 1 1 0;";
    /** Its codes are 0, 0, 1 and 2. */
    private static final String BEHIND = "comparator -1 0;weight 2 2 0;weight 1 1 0;";

    public static void main(String[] args) {
        sectionFour();
        p24To26();
        p27And28();
        p29To31();
        p32Absorbs();
        p33InputFor();
        p34RisingFrom();
        Checks.end();
    }

    private static void due(String call, Object got, Object want) {
        Checks.due(call, got, want);
    }

    private static TrialConverter plain(int... numbers) {
        TrialConverter x = Checks.loaded(PLAIN);
        for (int k = 0; k < numbers.length; k++) {
            x.setTable(k, numbers[k]);
        }
        return x;
    }

    /** Ten weights of 512 whose numbers are the greatest ones: the longest ramp with the greatest codes. */
    private static TrialConverter longest() {
        TrialConverter x = Checks.loaded(C + "weight 512 512 0;".repeat(10));
        for (int k = 0; k < 10; k++) {
            x.setTable(k, 1023);
        }
        return x;
    }

    /** All its codes are the greatest one that there can be. */
    private static TrialConverter greatestAlone() {
        TrialConverter x = Checks.loaded("comparator 50 0;" + "weight 5 5 0;".repeat(10));
        for (int k = 0; k < 10; k++) {
            x.setTable(k, 1023);
        }
        return x;
    }

    // ---- section 4

    private static void sectionFour() {
        s4FromZeroToTheRange();
        s4Quiet();
        s4MissingBetween();
        s4StepBack();
        s4Error();
        s4RampAsItIs();
        s4Calibrated();
    }

    private static void s4FromZeroToTheRange() {
        TrialConverter x = plain();
        for (int code = 0; code <= 7; code++) {
            due("4: once " + code, x.width(code), 1);
        }
        due("4: no input behind the range", x.width(7), 1);
        TrialConverter y = longest();
        due("4: 0 to 511", y.width(0), 512);
        due("4: 5120 alone", y.width(10230), 1);
        TrialConverter z = new TrialConverter();
        due("4: the shortest", z.width(0) * 10 + z.width(1), 11);
        due("4: all inputs", Checks.loaded(FLAT).width(1024), 19);
    }

    private static void s4Quiet() {
        Checks.Recipe recipe = () -> Checks.loaded("comparator 1 30;weight 2 2 0;weight 1 1 0;seed 9;");
        TrialConverter x = recipe.make();
        due("4: with offset and no noise", x.width(1) * 1000 + x.width(2) * 100 + x.width(3), 1102);
        due("4: the state stays", x.count(3), 9);
        Checks.Asked[] calls = {TrialConverter::codes, TrialConverter::missing, one -> one.missingAt(0),
            one -> one.width(1), TrialConverter::widest, TrialConverter::stepsBack, TrialConverter::worstInput,
            TrialConverter::meanError, one -> one.absorbs(1, true), one -> one.absorbs(0, false),
            one -> one.inputFor(2), TrialConverter::risingFrom};
        for (int n = 0; n < calls.length; n++) {
            Checks.changesNothing("4: ramp call " + n, recipe, calls[n]);
        }
    }

    private static void s4MissingBetween() {
        TrialConverter x = Checks.loaded(AHEAD);
        due("4: 0 is below the least", x.missing(), 0);
        x.setTable(0, 1023);
        // 1, 1023, 1024, 1024.
        due("4: between 1 and 1023", x.missing(), 1021);
        due("4: the first between", x.missingAt(0), 2);
        due("4: the last between", x.missingAt(1020), 1022);
        TrialConverter y = plain(0, 2, 1);
        // 0, 1, 2, 3, 0, 1, 2, 3.
        due("4: the greatest is not at the range", y.missing(), 0);
        y.setTable(1, 5);
        // 0, 1, 5, 6, 0, 1, 5, 6.
        due("4: 2, 3 and 4", y.missing() * 100 + y.missingAt(0) * 10 + y.missingAt(2), 324);
        TrialConverter z = Checks.loaded("comparator -1 0;weight 1 1 0;weight 1 1 0;");
        z.setTable(0, 0);
        z.setTable(1, 0);
        due("4: 0 alone", z.missing() * 10 + z.codes(), 1);
    }

    private static void s4StepBack() {
        due("4: one less each time", stepsOf(0, 2, 1), "1 at 4");
        due("4: as much is none", stepsOf(3, 2, 1), "0 at 0");
        due("4: one less", stepsOf(2, 2, 1), "1 at 4");
        due("4: one more is none", stepsOf(4, 2, 1), "0 at 0");
        // 0, 9, 2, 11, 4, 13, 6, 15.
        due("4: at 2, 4 and 6", stepsOf(4, 2, 9), "3 at 6");
        // 0, 1, 0, 1, 0, 1, 0, 1.
        due("4: down to 0", stepsOf(0, 0, 1), "3 at 6");
        due("4: none of 0 alone", stepsOf(0, 0, 0), "0 at 0");
    }

    private static String stepsOf(int... numbers) {
        TrialConverter x = plain(numbers);
        return x.stepsBack() + " at " + x.risingFrom();
    }

    private static void s4Error() {
        // 0, 1, 2, 3, 0, 1, 2, 3: the errors are -4 from 4 on.
        TrialConverter below = plain(0, 2, 1);
        due("4: below", below.worstInput() + " " + below.meanError(), "4 2.0");
        // 0, 1, 2, 3, 8, 9, 10, 11: the errors are 4 from 4 on.
        TrialConverter above = plain(8, 2, 1);
        due("4: above", above.worstInput() + " " + above.meanError(), "4 2.0");
        // 0, 0, 4, 4, 3, 3, 7, 7: the errors are 0, -1, 2, 1, -1, -2, 1, 0.
        TrialConverter both = plain(3, 4, 0);
        due("4: 2 at 2, -2 at 5", both.worstInput() + " " + both.meanError(), "2 1.0");
        // 0, 1, 1, 2, 6, 7, 7, 8: the errors are 0, 0, -1, -1, 2, 2, 1, 1.
        TrialConverter later = plain(6, 1, 1);
        due("4: -1 at 2, 2 at 4", later.worstInput() + " " + later.meanError(), "4 1.0");
    }

    /** A ramp is that of the table as it is, also if another one was looked at before. */
    private static void s4RampAsItIs() {
        TrialConverter x = plain();
        due("4: at first", rampOf(x), "8 0 0 0 0 0.0");
        x.setTable(0, 6);
        // 0, 1, 2, 3, 6, 7, 8, 9.
        due("4: greater codes", rampOf(x), "8 2 0 4 0 1.0");
        x.setTable(0, 0);
        // 0, 1, 2, 3, 0, 1, 2, 3.
        due("4: less codes", rampOf(x), "4 0 1 4 4 2.0");
        Checks.dueThrow("4: not the greatest from before", ELEMENT, () -> x.inputFor(4));
        due("4: width 0 from before", x.width(6), 0);
        x.undo();
        due("4: undone", rampOf(x), "8 2 0 4 0 1.0");
        x.resetTable();
        due("4: reset", rampOf(x), "8 0 0 0 0 0.0");
        x.undo();
        due("4: undone again", rampOf(x), "8 2 0 4 0 1.0");
        x.save(0);
        x.undo();
        due("4: as at first", rampOf(x), "8 0 0 0 0 0.0");
        x.restore(0);
        due("4: restored", rampOf(x), "8 2 0 4 0 1.0");
        Checks.loadText(x, C + "weight 1 1 0;");
        due("4: loaded", rampOf(x), "2 0 0 0 0 0.0");
        x.undo();
        due("4: the load is undone", rampOf(x), "8 2 0 4 0 1.0");
        x.setNoise(9);
        x.convert(3);
        x.forget(9);
        due("4: other changes leave it", rampOf(x), "8 2 0 4 0 1.0");
    }

    private static String rampOf(TrialConverter x) {
        return x.codes() + " " + x.missing() + " " + x.stepsBack() + " " + x.worstInput() + " " + x.risingFrom() + " "
                + x.meanError();
    }

    private static void s4Calibrated() {
        TrialConverter x = Checks.loaded(C + "weight 4 5 0;weight 3 3 0;weight 2 2 0;weight 1 1 0;weight 1 1 0;");
        due("4: 4 and 4", x.width(4), 2);
        x.calibrate(0, 1);
        due("4: calibrated", x.width(4), 1);
        x.undo();
        due("4: undone", x.width(4), 2);
        x.calibrateAll(1);
        due("4: all calibrated", x.width(4), 1);
    }

    // ---- promises 24 to 28

    private static void p24To26() {
        due("24: one code", Checks.loaded(FLAT).codes(), 1);
        due("24: two", new TrialConverter().codes(), 2);
        due("24: of 5121 inputs", longest().codes(), 11);
        due("25: none of one code", Checks.loaded(FLAT).missing(), 0);
        due("25: of 5121 inputs", longest().missing(), 10231 - 11);
        due("26: the least", longest().missingAt(0), 1);
        due("26: the 1022nd", longest().missingAt(1021), 1022);
        due("26: over the code 1023", longest().missingAt(1022), 1024);
        due("26: the last", longest().missingAt(10219), 10229);
        for (int place : new int[] {10220, -1, LEAST, GREATEST}) {
            Checks.dueThrow("26: " + place, ELEMENT, () -> longest().missingAt(place));
        }
        for (int place : new int[] {0, 1, -1, LEAST, GREATEST}) {
            Checks.dueThrow("26: none, " + place, ELEMENT, () -> plain().missingAt(place));
            Checks.dueThrow("26: none of one code, " + place, ELEMENT, () -> Checks.loaded(FLAT).missingAt(place));
        }
        TrialConverter top = greatestAlone();
        due("24: the greatest code alone", top.codes(), 1);
        due("25: none of the greatest alone", top.missing(), 0);
        Checks.dueThrow("26: none of the greatest alone", ELEMENT, () -> top.missingAt(0));
        TrialConverter x = plain(5, 2, 1);
        due("26: the only one", x.missing() * 10 + x.missingAt(0), 14);
        Checks.dueThrow("26: no second", ELEMENT, () -> x.missingAt(1));
        TrialConverter dense = Checks.loaded(C + "weight 512 512 0;weight 256 256 0;weight 128 128 0;weight 64 64 0;"
                + "weight 32 32 0;weight 16 16 0;weight 8 8 0;weight 4 4 0;weight 2 2 0;weight 1 1 0;");
        due("24: each code", dense.codes(), 1024);
        due("25: none of them", dense.missing(), 0);
    }

    private static void p27And28() {
        for (int code : new int[] {-1, 8, 10230, 10231, LEAST, GREATEST}) {
            due("27: no input has " + code, plain().width(code), 0);
        }
        due("27: below a flat one", Checks.loaded(FLAT).width(1023) + Checks.loaded(FLAT).width(1025), 0);
        due("27: a missing one", longest().width(1022) + longest().width(1024) + longest().width(10229), 0);
        due("27: the greatest", longest().width(10230), 1);
        due("28: the least of several", plain().widest(), 0);
        // 0, 1, 2, 3, 1, 2, 3, 4: three of them are there twice.
        due("28: the least of three, not 0", plain(1, 2, 1).widest(), 1);
        due("28: it has two", plain(1, 2, 1).width(1), 2);
        // 0, 0, 1, 1, 9, 9, 10, 10.
        due("28: the least of four", plain(9, 1, 0).widest(), 0);
        due("28: the greatest code", Checks.loaded(AHEAD).widest(), 3);
        due("28: the only code", Checks.loaded(FLAT).widest(), 1024);
        due("28: the greatest code alone", greatestAlone().widest(), 10230);
        due("27: it has all inputs", greatestAlone().width(10230), 51);
        due("28: of the longest", longest().widest(), 0);
        due("28: 0 alone", plain(0, 0, 0).widest(), 0);
        due("27: 0 alone", plain(0, 0, 0).width(0), 8);
        // 0, 1, 0, 1, 0, 1, 0, 1.
        due("28: four times each", plain(0, 0, 1).widest(), 0);
        TrialConverter x = Checks.loaded(BEHIND);
        x.setTable(0, 0);
        // 0, 0, 1, 0.
        due("27: not side by side", x.width(0) * 10 + x.width(1), 31);
        TrialConverter y = Checks.loaded("comparator 2 0;weight 2 2 0;weight 1 1 0;");
        y.setTable(0, 0);
        // 0, 1, 1, 1.
        due("28: not the least code, but the one with more inputs", y.widest() * 10 + y.width(1), 13);
    }

    // ---- promises 29 to 31

    private static void p29To31() {
        TrialConverter ahead = Checks.loaded(AHEAD);
        due("30: at 0, of 1, 1, 1, 0", ahead.worstInput(), 0);
        due("31: 3 / 4", ahead.meanError(), 0.75);
        ahead.setTable(0, 0);
        // 1, 0, 1, 1.
        due("29: the first one there can be", ahead.stepsBack() + " " + ahead.risingFrom(), "1 1");
        due("30: at the range", ahead.worstInput(), 3);
        TrialConverter behind = Checks.loaded(BEHIND);
        due("30: the least of three", behind.worstInput(), 1);
        behind.setTable(0, 0);
        // 0, 0, 1, 0.
        due("29: the last one there can be", behind.stepsBack() + " " + behind.risingFrom(), "1 3");
        due("29: none", plain().stepsBack() + new TrialConverter().stepsBack() + longest().stepsBack(), 0);
        due("30: all are 0", plain().worstInput(), 0);
        due("31: all are 0", plain().meanError(), 0.0);
        due("30: at the range of the longest", longest().worstInput(), 5120);
        due("31: of the longest", longest().meanError(), meanOfLongest());
        due("30: the only code, at 0", Checks.loaded(FLAT).worstInput(), 0);
        due("31: 1024 to 1006", Checks.loaded(FLAT).meanError(), 1015.0);
        TrialConverter third = Checks.loaded(C + "weight 1 1 0;weight 1 1 0;");
        third.setTable(0, 2);
        // 0, 2, 3: the errors are 0, 1, 1.
        due("31: 2 / 3 as double", third.meanError(), 2.0 / 3.0);
        due("31: no float", third.meanError() == (double) (2f / 3f), false);
    }

    private static double meanOfLongest() {
        double sum = 0;
        for (int input = 0; input <= 5120; input++) {
            sum += Math.abs(input / 512 * 1023 - input);
        }
        return sum / 5121;
    }

    // ---- promise 32

    private static void p32Absorbs() {
        p32AsMuchIsNotGreater();
        p32NoneIsGreater();
        p32Hundred();
        p32GreaterByHundred();
        p32ThisTrialAlone();
        p32Weights();
    }

    private static void p32AsMuchIsNotGreater() {
        // 0, 0, 2: the error is -1 at 1.
        TrialConverter x = Checks.loaded(C + "weight 1 2 0;");
        x.setTable(0, 2);
        due("32: the worst is at 1", x.worstInput(), 1);
        // With 1 more the input 1 has 2, an error of 1; with 2 more the input 0 has 2 as well, and that is greater.
        due("32: as much at 1", x.absorbs(0, false), 1);
        // With 1 less the input 2 has 0.
        due("32: greater at 2", x.absorbs(0, true), 0);
        x.setTable(0, 1);
        // 0, 0, 1: the errors are 0, -1, -1. With 2 more they are 1, 0, -1; 1 less makes -2 at 2.
        due("32: as much at 0", x.absorbs(0, false), 100);
        due("32: greater, less", x.absorbs(0, true), 0);
        x.setTable(0, 4);
        // 0, 0, 4: the error 2 at 2. With 1 less it is -2 there, which is as much.
        due("32: as much below 0", x.absorbs(0, true), 100);
        due("32: 3 at 1", x.absorbs(0, false), 0);
    }

    private static void p32NoneIsGreater() {
        // All codes are 1024, far above the inputs; with less offset some are 512, which is nearer.
        TrialConverter x = Checks.loaded(FLAT);
        due("32: nearer for all", x.absorbs(0, true), 100);
        due("32: nothing turns", x.absorbs(0, false), 100);
        TrialConverter y = plain(0, 0, 0);
        due("32: the number is 0 anyway", y.absorbs(2, true) + y.absorbs(2, false), 200);
    }

    /** The inputs from 100 to 99 + e are made by those behind the first one, with e less: by 198 or 199 at most. */
    private static void p32Hundred() {
        String steps = C + same(100) + same(99) + same(50) + same(25) + same(12) + same(6) + same(3) + same(2) + same(1);
        due("32: 100 is too much", Checks.loaded(steps).absorbs(0, true), 99);
        due("32: 101 would be too much", Checks.loaded(steps + same(1)).absorbs(0, true), 100);
        String fewer = C + same(100) + same(98) + same(50) + same(25) + same(12) + same(6) + same(3) + same(2) + same(1);
        due("32: 99 is too much", Checks.loaded(fewer).absorbs(0, true), 98);
    }

    private static String same(int weight) {
        return "weight " + weight + " " + weight + " 0;";
    }

    /** With e more the input 250 - e has the level 200: the error there is e - 50, the worst one what is set. */
    private static void p32GreaterByHundred() {
        String text = C + "comparator -50 0;weight 200 200 1;" + same(128) + same(64) + same(32) + same(16) + same(8)
                + same(4) + same(2) + same(1);
        int[] absorbed = {50, 98, 99, 100, 100};
        int[] worst = {0, 48, 49, 50, 51};
        for (int n = 0; n < worst.length; n++) {
            TrialConverter x = Checks.loaded(text);
            x.setTable(8, 1 + worst[n]);
            due("32: worst " + worst[n], x.absorbs(0, false), absorbed[n]);
        }
    }

    /** The other trials of the same comparator keep its offset. */
    private static void p32ThisTrialAlone() {
        TrialConverter x = Checks.loaded(C + same(4) + same(3) + same(2) + same(1));
        // With 4 less the input 7 has to be made by 6; with 3 less the inputs up to 6 can be made.
        due("32: 3 are absorbed", x.absorbs(0, true), 3);
        // With 1 less the inputs 3 and 7 are made by 2 and 1, and by 4 too; with 2 less 8 has 7 alone.
        due("32: behind the second", x.absorbs(1, true), 1);
        due("32: behind the third", x.absorbs(2, true), 0);
        due("32: behind the last", x.absorbs(3, true), 0);
        for (int k = 0; k < 4; k++) {
            due("32: nothing takes a bit back, " + k, x.absorbs(k, false), 0);
        }
    }

    private static void p32Weights() {
        TrialConverter x = longest();
        for (int k : new int[] {-1, 10, LEAST, GREATEST}) {
            Checks.dueThrow("32: weight " + k, INDEX, () -> x.absorbs(k, true));
            Checks.dueThrow("32: weight " + k + ", greater", INDEX, () -> x.absorbs(k, false));
        }
        // The worst error is 5110 at 5120, which alone has the last bit; with 1 more 5119 has an error of 5111.
        due("32: the last of the longest", x.absorbs(9, false), 0);
        due("32: the last of the longest, less", x.absorbs(9, true), 100);
        TrialConverter y = new TrialConverter();
        due("32: the only one", y.absorbs(0, true) + y.absorbs(0, false), 0);
    }

    // ---- promises 33 and 34

    private static void p33InputFor() {
        due("33: the least", plain().inputFor(LEAST), 0);
        due("33: below 0", plain().inputFor(-1), 0);
        due("33: 0", plain().inputFor(0), 0);
        due("33: 1", plain().inputFor(1), 1);
        due("33: the greatest", plain().inputFor(7), 7);
        for (int code : new int[] {8, 10231, GREATEST}) {
            Checks.dueThrow("33: " + code, ELEMENT, () -> plain().inputFor(code));
        }
        // 0, 1, 2, 3, 0, 1, 2, 3.
        due("33: not behind the step back", plain(0, 2, 1).inputFor(3), 3);
        Checks.dueThrow("33: above all", ELEMENT, () -> plain(0, 2, 1).inputFor(4));
        // 0, 9, 2, 11, 4, 13, 6, 15.
        due("33: at least 3", plain(4, 2, 9).inputFor(3), 1);
        due("33: at least 10", plain(4, 2, 9).inputFor(10), 3);
        due("33: at least 15", plain(4, 2, 9).inputFor(15), 7);
        due("33: of the only code", Checks.loaded(FLAT).inputFor(1024), 0);
        Checks.dueThrow("33: above the only code", ELEMENT, () -> Checks.loaded(FLAT).inputFor(1025));
        due("33: the longest", longest().inputFor(10230), 5120);
        due("33: the longest, one below", longest().inputFor(9208), 5120);
        due("33: the longest, the code before", longest().inputFor(9207), 4608);
        due("33: the greatest code alone", greatestAlone().inputFor(10230), 0);
        Checks.dueThrow("33: above the longest", ELEMENT, () -> longest().inputFor(10231));
        due("33: 0 alone", plain(0, 0, 0).inputFor(0), 0);
        Checks.dueThrow("33: above 0 alone", ELEMENT, () -> plain(0, 0, 0).inputFor(1));
    }

    private static void p34RisingFrom() {
        due("34: no step back", plain().risingFrom(), 0);
        due("34: no step back of the shortest", new TrialConverter().risingFrom(), 0);
        due("34: equal codes are none", Checks.loaded(FLAT).risingFrom(), 0);
        due("34: 0 alone", plain(0, 0, 0).risingFrom(), 0);
        due("34: the only one", plain(0, 2, 1).risingFrom(), 4);
        due("34: the last of three", plain(4, 2, 9).risingFrom(), 6);
        // 0, 0, 2, 2, 1, 1, 3, 3: at 4, and later codes are not below that before it.
        due("34: a later rise is none", plain(1, 2, 0).risingFrom(), 4);
    }
}
