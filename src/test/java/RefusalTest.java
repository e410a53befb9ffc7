import java.util.NoSuchElementException;

/** Section 6: each call that is refused, with its exception, and that a twin which was not asked answers the same. */
public final class RefusalTest {
    private static final Class<?> INDEX = IndexOutOfBoundsException.class;
    private static final Class<?> ARGUMENT = IllegalArgumentException.class;
    private static final Class<?> STATE = IllegalStateException.class;
    private static final Class<?> ELEMENT = NoSuchElementException.class;
    private static final int LEAST = Integer.MIN_VALUE;
    private static final int GREATEST = Integer.MAX_VALUE;

    private static final String C = "comparator 0 0;";
    private static final String W = "weight 1 1 0;";

    public static void main(String[] args) {
        s6Texts();
        s6Comparators();
        s6Weights();
        s6Whats();
        s6Conversions();
        s6Places();
        s6Slots();
        s6Numbers();
        s6Calibration();
        s6NothingThere();
        s6TheOneNamedFirst();
        s6AskingChangesNothing();
        Checks.end();
    }

    /** Has something of all there is: 5 weights, 4 conversions, 60 bytes of text, 8 changes, one slot. */
    private static TrialConverter busy() {
        TrialConverter x = Checks.loaded("comparator 0 3;comparator -2 0;weight 4 5 0;weight 3 3 1;weight 2 2 0;"
                + "weight 1 1 0;weight 1 1 1;seed 5;");
        x.setNoise(100);
        x.setTable(1, 40);
        x.average(6, 2);
        x.convert(9);
        x.forget(1);
        x.convert(12);
        x.calibrate(2, 3);
        x.setTable(0, 9);
        x.save(1);
        x.setTable(0, 10);
        x.writeConversion(1);
        Checks.loadText(x, "comparator 0 31;");
        Checks.appendText(x, C + C + W + "seed 9;        ");
        return x;
    }

    private static TrialConverter full() {
        TrialConverter x = busy();
        for (int n = 0; n < 17; n++) {
            x.append(0x20202020, 0x20202020, 0x20202020, 0x20202020, 0x20202020);
        }
        return x;
    }

    private static void refused(String call, Class<?> want, Checks.Asked made) {
        Checks.refused("6: " + call, want, RefusalTest::busy, made);
    }

    private static void s6Texts() {
        Checks.due("6: a full buffer", full().load(400), 1);
        Checks.refused("6: append to 420", STATE, RefusalTest::full, x -> x.append(0, 0, 0, 0, 0));
        for (int length : new int[] {-1, 61, LEAST, GREATEST}) {
            refused("load " + length, ARGUMENT, x -> x.load(length));
        }
        Checks.refused("6: load 401", ARGUMENT, RefusalTest::full, x -> x.load(401));
        Checks.refused("6: load of an empty buffer", ARGUMENT, TrialConverter::new, x -> x.load(1));
        int length = Whole.written(busy()).length();
        for (int index : new int[] {-1, length, LEAST, GREATEST}) {
            refused("writtenByte " + index, INDEX, x -> x.writtenByte(index));
        }
    }

    private static void s6Comparators() {
        for (int comparator : new int[] {-1, 2, LEAST, GREATEST}) {
            refused("comparator " + comparator, INDEX, x -> x.comparator(comparator, 0));
        }
        Checks.refused("6: comparator 3 of 3", INDEX, () -> Checks.loaded(C.repeat(3) + W), x -> x.comparator(3, 0));
        Checks.refused("6: comparator 1 of 1", INDEX, TrialConverter::new, x -> x.comparator(1, 0));
    }

    private static void s6Weights() {
        for (int weight : new int[] {-1, 5, LEAST, GREATEST}) {
            refused("weight " + weight, INDEX, x -> x.weight(weight, 0));
            refused("setTable " + weight, INDEX, x -> x.setTable(weight, 0));
            refused("calibrate " + weight, INDEX, x -> x.calibrate(weight, 1));
            refused("trial of " + weight, INDEX, x -> x.trial(0, weight, 0));
            refused("absorbs " + weight, INDEX, x -> x.absorbs(weight, true));
            refused("absorbs greater " + weight, INDEX, x -> x.absorbs(weight, false));
        }
        Checks.Recipe ten = () -> Checks.loaded(C + W.repeat(10));
        Checks.refused("6: weight 10 of 10", INDEX, ten, x -> x.weight(10, 0));
        Checks.refused("6: setTable 10 of 10", INDEX, ten, x -> x.setTable(10, 0));
        Checks.refused("6: absorbs 10 of 10", INDEX, ten, x -> x.absorbs(10, true));
        Checks.refused("6: weight 1 of 1", INDEX, TrialConverter::new, x -> x.weight(1, 0));
    }

    private static void s6Whats() {
        for (int what : new int[] {-1, LEAST, GREATEST}) {
            refused("count " + what, ARGUMENT, x -> x.count(what));
            refused("comparator's " + what, ARGUMENT, x -> x.comparator(0, what));
            refused("weight's " + what, ARGUMENT, x -> x.weight(0, what));
            refused("conversion's " + what, ARGUMENT, x -> x.conversion(0, what));
            refused("trial's " + what, ARGUMENT, x -> x.trial(0, 0, what));
        }
        refused("count 9", ARGUMENT, x -> x.count(9));
        refused("comparator's 3", ARGUMENT, x -> x.comparator(1, 3));
        refused("weight's 6", ARGUMENT, x -> x.weight(4, 6));
        refused("conversion's 5", ARGUMENT, x -> x.conversion(3, 5));
        refused("trial's 3", ARGUMENT, x -> x.trial(3, 4, 3));
    }

    private static void s6Conversions() {
        for (int back : new int[] {-1, 4, LEAST, GREATEST}) {
            refused("conversion " + back, INDEX, x -> x.conversion(back, 0));
            refused("trial of conversion " + back, INDEX, x -> x.trial(back, 0, 0));
            refused("writeConversion " + back, INDEX, x -> x.writeConversion(back));
        }
        Checks.Recipe twenty = () -> {
            TrialConverter x = new TrialConverter();
            x.average(1, 16);
            x.average(0, 5);
            return x;
        };
        Checks.refused("6: conversion 20", INDEX, twenty, x -> x.conversion(20, 0));
        Checks.refused("6: trial of conversion 20", INDEX, twenty, x -> x.trial(20, 0, 0));
        Checks.refused("6: writeConversion 20", INDEX, twenty, x -> x.writeConversion(20));
    }

    private static void s6Places() {
        int seen = busy().count(5);
        int missing = busy().missing();
        Checks.due("6: there are missing codes", missing > 0, true);
        for (int place : new int[] {-1, LEAST, GREATEST}) {
            refused("seenAt " + place, INDEX, x -> x.seenAt(place));
            refused("missingAt " + place, ELEMENT, x -> x.missingAt(place));
        }
        refused("seenAt as many as seen", INDEX, x -> x.seenAt(seen));
        refused("missingAt as many as missing", ELEMENT, x -> x.missingAt(missing));
        refused("inputFor the greatest number", ELEMENT, x -> x.inputFor(GREATEST));
        refused("inputFor above the sum of the table", ELEMENT, x -> x.inputFor(x.count(7) + 1));
    }

    private static void s6Slots() {
        for (int slot : new int[] {-1, 2, LEAST, GREATEST}) {
            refused("save " + slot, INDEX, x -> x.save(slot));
            refused("restore " + slot, INDEX, x -> x.restore(slot));
        }
        refused("restore of an empty one", STATE, x -> x.restore(0));
        for (int weights : new int[] {1, 4, 6, 10}) {
            Checks.Recipe other = () -> {
                TrialConverter x = busy();
                Checks.loadText(x, "");
                Checks.loadText(x, C + W.repeat(weights));
                return x;
            };
            Checks.refused("6: restore of 5 weights to " + weights, STATE, other, x -> x.restore(1));
        }
    }

    private static void s6Numbers() {
        for (int far : new int[] {-1, LEAST, GREATEST}) {
            refused("setTable to " + far, ARGUMENT, x -> x.setTable(0, far));
            refused("setNoise to " + far, ARGUMENT, x -> x.setNoise(far));
            refused("convert " + far, ARGUMENT, x -> x.convert(far));
            refused("average of " + far, ARGUMENT, x -> x.average(far, 2));
            refused("quiet " + far, ARGUMENT, x -> x.quiet(far));
            refused("spread of " + far, ARGUMENT, x -> x.spread(far, 2));
            refused("forget " + far, ARGUMENT, x -> x.forget(far));
        }
        refused("setTable to 1024", ARGUMENT, x -> x.setTable(4, 1024));
        refused("setNoise to 65536", ARGUMENT, x -> x.setNoise(65536));
        refused("convert 10000", ARGUMENT, x -> x.convert(10000));
        refused("average of 10000", ARGUMENT, x -> x.average(10000, 16));
        refused("quiet 10000", ARGUMENT, x -> x.quiet(10000));
        refused("spread of 10000", ARGUMENT, x -> x.spread(10000, 16));
        refused("forget 0", ARGUMENT, x -> x.forget(0));
        refused("forget 1001", ARGUMENT, x -> x.forget(1001));
        for (int conversions : new int[] {0, 17, -1, LEAST, GREATEST}) {
            refused("average, conversions " + conversions, ARGUMENT, x -> x.average(9, conversions));
            refused("spread, conversions " + conversions, ARGUMENT, x -> x.spread(9, conversions));
            refused("calibrate, conversions " + conversions, ARGUMENT, x -> x.calibrate(0, conversions));
            refused("calibrateAll, conversions " + conversions, ARGUMENT, x -> x.calibrateAll(conversions));
        }
    }

    private static void s6Calibration() {
        refused("calibrate the last one", STATE, x -> x.calibrate(4, 16));
        Checks.Recipe lacking = () -> Checks.loaded("comparator 0 3;weight 3 3 0;weight 1 1 0;weight 1 1 0;seed 8;");
        Checks.refused("6: calibrate with too little behind it", STATE, lacking, x -> x.calibrate(0, 1));
        Checks.refused("6: calibrate the only one", STATE, TrialConverter::new, x -> x.calibrate(0, 1));
    }

    private static void s6NothingThere() {
        Checks.Recipe fresh = TrialConverter::new;
        Checks.refused("6: undo of nothing", STATE, fresh, TrialConverter::undo);
        Checks.refused("6: mostSeen of none", ELEMENT, fresh, TrialConverter::mostSeen);
        Checks.refused("6: seenAt of none", INDEX, fresh, x -> x.seenAt(0));
        Checks.refused("6: conversion of none", INDEX, fresh, x -> x.conversion(0, 0));
        Checks.refused("6: trial of none", INDEX, fresh, x -> x.trial(0, 0, 0));
        Checks.refused("6: writeConversion of none", INDEX, fresh, x -> x.writeConversion(0));
        Checks.refused("6: writtenByte of none", INDEX, fresh, x -> x.writtenByte(0));
        Checks.refused("6: missingAt of none", ELEMENT, fresh, x -> x.missingAt(0));
        Checks.refused("6: restore of nothing in 0", STATE, fresh, x -> x.restore(0));
        Checks.refused("6: restore of nothing in 1", STATE, fresh, x -> x.restore(1));
        Checks.Recipe forgotten = () -> {
            TrialConverter x = busy();
            x.forget(1000);
            return x;
        };
        Checks.refused("6: mostSeen of those forgotten", ELEMENT, forgotten, TrialConverter::mostSeen);
        Checks.refused("6: seenAt of those forgotten", INDEX, forgotten, x -> x.seenAt(0));
        Checks.Recipe undone = () -> {
            TrialConverter x = busy();
            for (int n = 0; n < 8; n++) {
                x.undo();
            }
            return x;
        };
        Checks.refused("6: undo of the ninth", STATE, undone, TrialConverter::undo);
    }

    private static void s6TheOneNamedFirst() {
        for (int none : new int[] {-1, LEAST, GREATEST}) {
            refused("comparator and what " + none, INDEX, x -> x.comparator(none, none));
            refused("weight and what " + none, INDEX, x -> x.weight(none, none));
            refused("setTable of and to " + none, INDEX, x -> x.setTable(none, none));
            refused("calibrate, weight and conversions " + none, INDEX, x -> x.calibrate(none, none));
            refused("calibrate, conversions and the last one " + none, ARGUMENT, x -> x.calibrate(4, none));
            refused("conversion and what " + none, INDEX, x -> x.conversion(none, none));
            refused("trial, conversion and what " + none, INDEX, x -> x.trial(none, 0, none));
            refused("trial, weight and what " + none, INDEX, x -> x.trial(0, none, none));
            refused("trial, all three " + none, INDEX, x -> x.trial(none, none, none));
            refused("average, both " + none, ARGUMENT, x -> x.average(none, none));
            refused("spread, both " + none, ARGUMENT, x -> x.spread(none, none));
        }
        refused("comparator 2 and what 3", INDEX, x -> x.comparator(2, 3));
        refused("weight 5 and what 6", INDEX, x -> x.weight(5, 6));
        refused("setTable of 5 to 1024", INDEX, x -> x.setTable(5, 1024));
        refused("calibrate 5 with 0", INDEX, x -> x.calibrate(5, 0));
        refused("calibrate 5 with 17", INDEX, x -> x.calibrate(5, 17));
        refused("calibrate the last one with 0", ARGUMENT, x -> x.calibrate(4, 0));
        refused("calibrate the last one with 17", ARGUMENT, x -> x.calibrate(4, 17));
        refused("conversion 4 and what 5", INDEX, x -> x.conversion(4, 5));
        refused("trial of conversion 4 and what 3", INDEX, x -> x.trial(4, 0, 3));
        refused("trial of weight 5 and what 3", INDEX, x -> x.trial(0, 5, 3));
        Checks.refused("6: what -1 of no conversion", INDEX, TrialConverter::new, x -> x.conversion(0, -1));
        Checks.refused("6: what -1 of no trial", INDEX, TrialConverter::new, x -> x.trial(0, 0, -1));
        Checks.refused("6: restore 2 of nothing", INDEX, TrialConverter::new, x -> x.restore(2));
    }

    private static void s6AskingChangesNothing() {
        Checks.Asked[] calls = {TrialConverter::errorPosition, x -> x.count(6), x -> x.comparator(1, 2),
            x -> x.weight(4, 5), x -> x.quiet(7), x -> x.spread(7, 16), x -> x.conversion(3, 4), x -> x.trial(3, 4, 1),
            TrialConverter::decidedWrong, x -> x.seen(9), x -> x.seenAt(0), TrialConverter::mostSeen,
            TrialConverter::codes, TrialConverter::missing, x -> x.missingAt(0), x -> x.width(3),
            TrialConverter::widest, TrialConverter::stepsBack, TrialConverter::worstInput, TrialConverter::meanError,
            x -> x.absorbs(1, true), x -> x.absorbs(1, false), x -> x.inputFor(3), TrialConverter::risingFrom,
            x -> x.writtenByte(0)};
        for (int n = 0; n < calls.length; n++) {
            Checks.changesNothing("6: asking " + n, RefusalTest::busy, calls[n]);
        }
    }
}
