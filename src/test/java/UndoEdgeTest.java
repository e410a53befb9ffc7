/** The edges of the changes in section 5 and of the promises 35 to 39: a test for each sentence. */
public final class UndoEdgeTest {
    private static final Class<?> INDEX = IndexOutOfBoundsException.class;
    private static final Class<?> STATE = IllegalStateException.class;
    private static final int LEAST = Integer.MIN_VALUE;
    private static final int GREATEST = Integer.MAX_VALUE;

    private static final String C = "comparator 0 0;";
    /** Its first weight can be calibrated, and is then 5 in place of 4. */
    private static final String SPARE = C + "weight 4 5 0;weight 3 3 0;weight 2 2 0;weight 1 1 0;weight 1 1 0;";

    private static final String[] NAMES = {"load", "setTable", "setNoise", "resetTable", "convert", "average",
        "calibrate", "calibrateAll", "forget", "restore"};
    /** What alters something behind start(). */
    private static final Checks.Asked[] CHANGES = {x -> Checks.loadText(x, C + "weight 9 9 0;"),
        x -> x.setTable(0, 700), x -> x.setNoise(700), TrialConverter::resetTable, x -> x.convert(9),
        x -> x.average(9, 16), x -> x.calibrate(0, 3), x -> x.calibrateAll(3), x -> x.forget(2), x -> x.restore(1)};
    /** What alters nothing, or nothing but the conversions kept and the codes seen, behind a load of SPARE. */
    private static final Checks.Asked[] IDLE = {x -> Checks.loadText(x, SPARE), x -> x.setTable(0, 4),
        x -> x.setNoise(0), TrialConverter::resetTable, x -> x.convert(0), x -> x.average(0, 1),
        x -> x.calibrate(1, 1), x -> calibrateNone(x), x -> x.forget(1), x -> x.restore(0)};

    public static void main(String[] args) {
        s5AllChanges();
        s5AlsoIfNothingIsAnother();
        s5WhatIsNoChange();
        s5LatestEight();
        s5BringsBackEverything();
        s5BufferStays();
        s5PositionStays();
        s5WrittenStays();
        s5SlotsStay();
        p35Written();
        p35InPlaceOfTheOld();
        p36Ends();
        p37Numbers();
        p38Slots();
        p38InPlaceOfTheOld();
        p39NumberOfWeights();
        p39SlotKeepsIt();
        Checks.end();
    }

    private static void due(String call, Object got, Object want) {
        Checks.due(call, got, want);
    }

    private static int calibrateNone(TrialConverter x) {
        x.setTable(0, 5);
        x.undo();
        return x.calibrateAll(1);
    }

    /** Everything is there that a change may alter; 3 changes can be undone. */
    private static TrialConverter start() {
        TrialConverter x = new TrialConverter();
        Checks.loadText(x, "comparator 0 3;weight 4 5 0;weight 3 3 0;weight 2 2 0;weight 1 1 0;weight 1 1 0;seed 5;");
        x.save(1);
        x.setTable(0, 50);
        x.average(4, 5);
        return x;
    }

    // ---- section 5: changes

    private static void s5AllChanges() {
        for (int n = 0; n < CHANGES.length; n++) {
            TrialConverter x = start();
            String before = Whole.held(x);
            CHANGES[n].answer(x);
            due("5: " + NAMES[n] + " alters something", Whole.held(x).equals(before), false);
            due("5: " + NAMES[n] + " is a change", x.undo(), 3);
            due("5: " + NAMES[n] + " is undone", Whole.held(x), before);
        }
    }

    private static void s5AlsoIfNothingIsAnother() {
        for (int n = 0; n < IDLE.length; n++) {
            TrialConverter x = Checks.loaded(SPARE);
            x.save(0);
            IDLE[n].answer(x);
            due("5: idle " + NAMES[n] + " is a change", x.undo(), 1);
        }
        TrialConverter x = Checks.loaded(SPARE);
        x.save(0);
        String before = Whole.held(x);
        for (int n = 0; n < IDLE.length; n++) {
            boolean keeps = NAMES[n].equals("convert") || NAMES[n].equals("average") || NAMES[n].equals("calibrateAll");
            IDLE[n].answer(x);
            due("5: nothing is another one behind " + NAMES[n], keeps || Whole.held(x).equals(before), true);
            x.undo();
        }
    }

    private static void s5WhatIsNoChange() {
        Checks.Asked[] calls = {x -> x.append(0, 0, 0, 0, 0), x -> Checks.loadText(x, "?"), x -> x.load(0),
            TrialConverter::errorPosition, x -> x.count(2), x -> x.comparator(0, 0), x -> x.weight(0, 0),
            x -> x.quiet(1), x -> x.spread(1, 16), x -> x.conversion(0, 0), x -> x.trial(0, 0, 0),
            TrialConverter::decidedWrong, x -> x.seen(0), x -> x.seenAt(0), TrialConverter::mostSeen,
            TrialConverter::codes, TrialConverter::missing, x -> x.missingAt(0), x -> x.width(0),
            TrialConverter::widest, TrialConverter::stepsBack, TrialConverter::worstInput, TrialConverter::meanError,
            x -> x.absorbs(0, true), x -> x.inputFor(0), TrialConverter::risingFrom, x -> x.writeConversion(0),
            x -> x.writtenByte(0), x -> x.save(0), x -> x.setTable(0, 1024), x -> x.setNoise(-1),
            x -> x.convert(10000), x -> x.average(0, 17), x -> x.calibrate(4, 1), x -> x.calibrateAll(17),
            x -> x.forget(1001), x -> x.restore(0), x -> x.restore(2), x -> x.load(1)};
        for (int n = 0; n < calls.length; n++) {
            TrialConverter x = start();
            String before = Whole.held(x);
            Checks.Asked call = calls[n];
            Checks.outcome(() -> call.answer(x));
            due("5: call " + n + " alters nothing", Whole.held(x), before);
            due("5: call " + n + " is no change", x.undo(), 2);
        }
    }

    /** For each change: eight of them can be undone, the one before cannot any more. */
    private static void s5LatestEight() {
        for (int n = 0; n < CHANGES.length; n++) {
            TrialConverter x = start();
            CHANGES[n].answer(x);
            for (int more = 1; more <= 8; more++) {
                x.setNoise(more);
            }
            String name = "5: " + NAMES[n] + " and eight more, ";
            for (int left = 7; left >= 0; left--) {
                due(name + left, x.undo(), left);
            }
            Checks.dueThrow(name + "none", STATE, x::undo);
            TrialConverter y = start();
            CHANGES[n].answer(y);
            due(name + "its doing stays", Whole.held(x), Whole.held(y));
        }
        // Nine changes of each kind, whose eight latest are undone.
        for (int n = 0; n < IDLE.length; n++) {
            TrialConverter x = Checks.loaded(SPARE);
            x.save(0);
            for (int times = 0; times < 9; times++) {
                IDLE[n].answer(x);
            }
            for (int left = 7; left >= 0; left--) {
                due("5: nine of " + NAMES[n] + ", " + left, x.undo(), left);
            }
            Checks.dueThrow("5: nine of " + NAMES[n], STATE, x::undo);
        }
    }

    /** All the way back over a load, with each number, conversion, trial and code seen. */
    private static void s5BringsBackEverything() {
        due("5: load is among them", changed(8, 0).count(1), 1);
        for (int n = 8; n >= 0; n--) {
            due("5: as behind " + n + " changes", Whole.numbers(changed(8, 8 - n)), Whole.numbers(changed(n, 0)));
        }
        TrialConverter y = start();
        String loaded = Whole.numbers(y);
        Checks.loadText(y, C + "weight 1 1 0;".repeat(10));
        y.average(3, 16);
        y.undo();
        y.undo();
        due("5: a smaller converter is back", Whole.numbers(y), loaded);
        y.undo();
        y.undo();
        y.undo();
        due("5: the very first one is back", Whole.held(y), Whole.held(new TrialConverter()));
        Checks.dueThrow("5: not farther", STATE, y::undo);
    }

    private static TrialConverter changed(int changes, int undone) {
        TrialConverter x = start();
        for (int n = 0; n < changes; n++) {
            CHANGES[(n + 4) % CHANGES.length].answer(x);
        }
        for (int n = 0; n < undone; n++) {
            due("5: left of " + changes, x.undo(), changes - 1 - n);
        }
        return x;
    }

    private static void s5BufferStays() {
        for (int n = 0; n < CHANGES.length; n++) {
            TrialConverter x = start();
            x.append(0, 0, 0, 0, 0);
            CHANGES[n].answer(x);
            // Load empties it, and nothing brings it back.
            int left = n == 0 ? 0 : 20;
            Checks.appendText(x, SPARE);
            x.undo();
            due("5: buffer behind undone " + NAMES[n], x.append(0, 0, 0, 0, 0), left + 100);
        }
        TrialConverter x = start();
        Checks.appendText(x, C + "weight 9 9 0;");
        x.undo();
        due("5: its bytes stay", x.load(28), 1);
        due("5: they were read", x.weight(0, 0), 9);
    }

    private static void s5PositionStays() {
        for (int n = 1; n < CHANGES.length; n++) {
            TrialConverter x = start();
            Checks.loadText(x, "comparator 0 31;");
            CHANGES[n].answer(x);
            x.undo();
            due("5: position behind undone " + NAMES[n], x.errorPosition(), 13);
            CHANGES[n].answer(x);
            Checks.loadText(x, "comparator 51 3;");
            x.undo();
            due("5: newer position behind undone " + NAMES[n], x.errorPosition(), 11);
        }
        TrialConverter x = start();
        Checks.loadText(x, "comparator 0 31;");
        CHANGES[0].answer(x);
        x.undo();
        due("5: none behind an undone load", x.errorPosition(), TrialConverter.NONE);
        x.load(0);
        x.undo();
        due("5: 0 behind an undone change", x.errorPosition(), 0);
    }

    private static void s5WrittenStays() {
        for (int n = 0; n < CHANGES.length; n++) {
            TrialConverter x = start();
            x.writeConversion(4);
            String first = Whole.written(x);
            CHANGES[n].answer(x);
            due("5: written behind " + NAMES[n], Whole.written(x), first);
            x.undo();
            due("5: written behind undone " + NAMES[n], Whole.written(x), first);
        }
        TrialConverter x = start();
        x.convert(200);
        x.writeConversion(0);
        x.undo();
        due("5: of a conversion that is undone", Whole.written(x), "11111=57");
        x.undo();
        x.undo();
        x.undo();
        due("5: of a converter that is undone", Whole.written(x), "11111=57");
    }

    private static void s5SlotsStay() {
        for (int n = 0; n < CHANGES.length; n++) {
            TrialConverter x = start();
            x.setNoise(800);
            CHANGES[n].answer(x);
            int sum = x.count(7);
            int noise = x.count(3);
            due("5: saved behind " + NAMES[n], x.save(0), sum);
            x.undo();
            if (n == 0) {
                Checks.dueThrow("5: of one weight", STATE, () -> x.restore(0));
                continue;
            }
            due("5: slot behind undone " + NAMES[n], x.restore(0), sum);
            due("5: its noise behind undone " + NAMES[n], x.count(3), noise);
            x.undo();
            due("5: slot behind an undone restore", x.restore(0), sum);
        }
        TrialConverter x = start();
        x.undo();
        x.undo();
        x.undo();
        Checks.loadText(x, SPARE);
        due("5: saved by a converter that is undone", x.restore(1), 11);
        due("5: with its noise", x.count(3), 5);
    }

    // ---- promises 35 and 36

    private static void p35Written() {
        TrialConverter x = new TrialConverter();
        Checks.dueThrow("35: none kept", INDEX, () -> x.writeConversion(0));
        x.convert(0);
        due("35: the shortest", x.writeConversion(0), 3);
        due("35: its text", Whole.written(x), "0=0");
        TrialConverter y = Checks.loaded(C + "weight 512 512 0;".repeat(10));
        for (int k = 0; k < 10; k++) {
            y.setTable(k, 1023);
        }
        y.convert(9999);
        due("35: the longest", y.writeConversion(0), 16);
        due("35: its text too", Whole.written(y), "1111111111=10230");
        TrialConverter z = Checks.loaded(SPARE);
        z.convert(3);
        z.writeConversion(0);
        due("35: from the weight 0 on", Whole.written(z), "01000=3");
        z.setTable(1, 99);
        z.writeConversion(0);
        due("35: by the table as it was then", Whole.written(z), "01000=3");
        for (int n = 0; n < 25; n++) {
            z.convert(n % 2);
        }
        due("35: the oldest", z.writeConversion(19), 7);
        due("35: its bits", Whole.written(z), "00010=1");
        for (int back : new int[] {-1, 20, LEAST, GREATEST}) {
            Checks.dueThrow("35: back " + back, INDEX, () -> z.writeConversion(back));
        }
        due("35: a refused one writes nothing", Whole.written(z), "00010=1");
    }

    private static void p35InPlaceOfTheOld() {
        TrialConverter x = Checks.loaded(SPARE);
        x.convert(12);
        x.convert(0);
        due("35: longer", x.writeConversion(1), 8);
        due("35: shorter", x.writeConversion(0), 7);
        due("35: the shorter one alone", Whole.written(x), "00000=0");
        Checks.loadText(x, C + "weight 1 1 0;");
        due("36: behind a load", Whole.written(x), "00000=0");
        Checks.dueThrow("35: none kept behind a load", INDEX, () -> x.writeConversion(0));
    }

    private static void p36Ends() {
        TrialConverter x = Checks.loaded(SPARE);
        for (int index : new int[] {0, -1, 1, LEAST, GREATEST}) {
            Checks.dueThrow("36: none at first, " + index, INDEX, () -> x.writtenByte(index));
        }
        x.convert(12);
        due("36: converting writes nothing", Whole.written(x), "");
        x.writeConversion(0);
        due("36: the first byte", x.writtenByte(0), 49);
        due("36: the equals sign", x.writtenByte(5), 61);
        due("36: the last byte", x.writtenByte(7), 49);
        for (int index : new int[] {-1, 8, LEAST, GREATEST}) {
            Checks.dueThrow("36: of eight, " + index, INDEX, () -> x.writtenByte(index));
        }
    }

    // ---- promises 37 to 39

    private static void p37Numbers() {
        TrialConverter x = new TrialConverter();
        Checks.dueThrow("37: none at first", STATE, x::undo);
        x.setNoise(1);
        due("37: the only one", x.undo(), 0);
        Checks.dueThrow("37: none again", STATE, x::undo);
        due("37: it is undone", x.count(3), 0);
        for (int n = 1; n <= 8; n++) {
            x.setNoise(n);
        }
        due("37: eight", x.undo(), 7);
        x.setNoise(9);
        due("37: eight again", x.undo(), 7);
        for (int n = 9; n <= 30; n++) {
            x.setNoise(n);
        }
        due("37: of many", x.undo(), 7);
        due("37: the latest is undone", x.count(3), 29);
        x.undo();
        x.undo();
        due("37: three are undone", x.count(3), 27);
        // What was undone is no change any more: three new ones stand in its place.
        x.setNoise(100);
        x.setNoise(101);
        x.setNoise(102);
        x.setNoise(103);
        int[] states = {102, 101, 100, 27, 26, 25, 24, 23};
        for (int n = 0; n < 8; n++) {
            due("37: left of eight", x.undo(), 7 - n);
            due("37: state " + n, x.count(3), states[n]);
        }
        Checks.dueThrow("37: the ninth", STATE, x::undo);
        due("37: a refused one changes nothing", x.count(3), 23);
    }

    private static void p38Slots() {
        TrialConverter x = Checks.loaded(SPARE + "seed 65535;");
        due("38: slot 0", x.save(0), 11);
        due("38: slot 1", x.save(1), 11);
        for (int slot : new int[] {-1, 2, LEAST, GREATEST}) {
            Checks.dueThrow("38: slot " + slot, INDEX, () -> x.save(slot));
            Checks.dueThrow("39: slot " + slot, INDEX, () -> x.restore(slot));
        }
        due("38: no change", x.undo(), 0);
        TrialConverter y = Checks.loaded(C + "weight 512 512 0;".repeat(10));
        for (int k = 0; k < 10; k++) {
            y.setTable(k, 1023);
        }
        due("38: the greatest sum", y.save(0), 10230);
        for (int k = 0; k < 10; k++) {
            y.setTable(k, 0);
        }
        due("38: the least sum", y.save(1), 0);
        due("39: the greatest sum", y.restore(0), 10230);
        due("39: the least sum", y.restore(1), 0);
    }

    private static void p38InPlaceOfTheOld() {
        TrialConverter x = Checks.loaded(SPARE + "seed 3;");
        x.save(0);
        x.setTable(0, 0);
        x.setNoise(65535);
        x.save(1);
        x.setTable(1, 1000);
        due("38: a slot is not the table", x.restore(1), 7);
        x.setTable(4, 21);
        x.setNoise(0);
        x.save(0);
        due("38: the other slot stays", x.restore(1), 7);
        due("38: and its noise", x.count(3), 65535);
        due("38: in place of the old", x.restore(0), 27);
        due("38: and the noise", x.count(3), 0);
    }

    private static void p39NumberOfWeights() {
        TrialConverter x = Checks.loaded(C + "weight 7 5 0;weight 6 6 0;seed 11;");
        Checks.dueThrow("39: nothing in 0", STATE, () -> x.restore(0));
        Checks.dueThrow("39: nothing in 1", STATE, () -> x.restore(1));
        x.setTable(1, 1023);
        x.save(0);
        Checks.dueThrow("39: nothing in 1 still", STATE, () -> x.restore(1));
        for (int weights : new int[] {1, 3, 10}) {
            Checks.loadText(x, C + "weight 9 9 0;".repeat(weights));
            Checks.dueThrow("39: in one of " + weights, STATE, () -> x.restore(0));
            due("39: the table of " + weights + " stays", x.count(7), 9 * weights);
            due("39: the noise state stays", x.count(3), 0);
        }
        Checks.loadText(x, "comparator 5 5;weight 9 8 0;weight 9 8 0;");
        x.convert(8);
        due("39: in another one of 2", x.restore(0), 1030);
        due("39: its first number", x.weight(0, 3), 7);
        due("39: its second number", x.weight(1, 3), 1023);
        due("39: told stays", x.weight(0, 0), 9);
        due("39: actual stays", x.weight(1, 1), 8);
        due("39: the comparator stays", x.comparator(0, 0), 5);
        due("39: the noise state", x.count(3), 11);
        due("39: conversions stay", x.count(4) * 10 + x.count(6), 11);
        due("39: the eighth change", x.undo(), 7);
        due("39: undone", x.count(7), 18);
    }

    private static void p39SlotKeepsIt() {
        TrialConverter x = Checks.loaded(SPARE + "seed 3;");
        x.save(0);
        for (int n = 0; n < 3; n++) {
            due("39: once more", x.restore(0), 11);
            due("39: and the noise", x.count(3), 3);
            x.setTable(n, 900 + n);
            x.setNoise(n);
            x.calibrateAll(2);
        }
        x.restore(0);
        due("39: a change also if nothing is another one", x.undo(), 7);
    }
}
