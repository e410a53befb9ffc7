import java.util.NoSuchElementException;

/** Each promise of the document with answers worked out by hand: ordinary inputs, edges and wrong inputs. */
public final class PromiseTest {
    private static final Class<?> INDEX = IndexOutOfBoundsException.class;
    private static final Class<?> ARGUMENT = IllegalArgumentException.class;
    private static final Class<?> STATE = IllegalStateException.class;
    private static final Class<?> ELEMENT = NoSuchElementException.class;

    /** Its codes are its inputs, from 0 to 7. */
    private static final String PLAIN = "comparator 0 0; weight 4 4 0; weight 2 2 0; weight 1 1 0;";
    /** Redundant: 5 has 7 behind it. The actual first weight is one more than told. */
    private static final String SPARE =
            "comparator 0 0; weight 4 5 0; weight 3 3 0; weight 2 2 0; weight 1 1 0; weight 1 1 0;";
    /** The noises from seed 5 on are -1, 0, 1, -1. */
    private static final String NOISY = "comparator 0 0; comparator 2 1; weight 8 8 1; weight 4 4 0; weight 2 2 1;"
            + " weight 1 1 1; seed 5;";

    /** Its codes are 1, 2, 3 and 3. */
    private static final String AHEAD = "comparator 1 0; weight 2 2 0; weight 1 1 0;";

    public static void main(String[] args) {
        setup();
        theTable();
        conversions();
        codesSeen();
        ramps();
        textsUndoAndSlots();
        Checks.end();
    }

    private static void setup() {
        p1NewObject();
        p2Append();
        p3Load();
        p3LoadErrors();
        p3LoadEdges();
        p4ErrorPosition();
        p5Count();
        p6Comparator();
        p7Weight();
    }

    private static void theTable() {
        p8SetTable();
        p9ResetTable();
        p10Calibrate();
        p10CalibrateWithNoise();
        p11CalibrateAll();
    }

    private static void conversions() {
        p12SetNoise();
        p13Convert();
        p14Average();
        p15Quiet();
        p16Spread();
        p17Conversion();
        p18Trial();
        p19DecidedWrong();
    }

    private static void codesSeen() {
        p20Seen();
        p21SeenAt();
        p22MostSeen();
        p23Forget();
    }

    private static void ramps() {
        p24To26CodesAndMissing();
        p27To28Widths();
        p29To31StepsAndErrors();
        p29To31Ends();
        p32Absorbs();
        p33InputFor();
        p34RisingFrom();
        rampsFollowEveryChange();
    }

    private static void textsUndoAndSlots() {
        p35And36Written();
        p37Undo();
        p37UndoKeeps();
        p37EveryChange();
        p37NoChange();
        p38Save();
        p39Restore();
    }

    private static void due(String call, Object got, Object want) {
        Checks.due(call, got, want);
    }

    private static void p1NewObject() {
        TrialConverter x = new TrialConverter();
        due("1: comparators", x.count(0), 1);
        due("1: weights", x.count(1), 1);
        due("1: range", x.count(2), 1);
        due("1: noise", x.count(3), 0);
        due("1: offset", x.comparator(0, 0), 0);
        due("1: amplitude", x.comparator(0, 1), 0);
        due("1: told", x.weight(0, 0), 1);
        due("1: actual", x.weight(0, 1), 1);
        due("1: its comparator", x.weight(0, 2), 0);
        due("1: table", x.weight(0, 3), 1);
        due("1: empty buffer", x.append(0, 0, 0, 0, 0), 20);
        Checks.dueThrow("1: empty slot 0", STATE, () -> x.restore(0));
        Checks.dueThrow("1: empty slot 1", STATE, () -> x.restore(1));
        Checks.dueThrow("1: nothing to undo", STATE, x::undo);
    }

    private static void p2Append() {
        TrialConverter x = new TrialConverter();
        for (int n = 1; n <= 20; n++) {
            due("2: append " + n, x.append(0x20202020, 0x20202020, 0x20202020, 0x20202020, 0x20202020), 20 * n);
        }
        Checks.dueThrow("2: append 21", STATE, () -> x.append(1, 2, 3, 4, 5));
        due("2: the buffer stays", x.load(400), -2);
        due("2: at its end", x.errorPosition(), 400);
        due("2: again from 0", x.append(0, 0, 0, 0, 0), 20);
        // The most significant byte first, also one above 127.
        TrialConverter y = new TrialConverter();
        y.append(0x2020E020, 0, 0, 0, 0);
        due("2: order of bytes", y.load(4), -2);
        due("2: third byte", y.errorPosition(), 2);
        String text = "comparator1 2;weight3 4 0;seed 6;   ";
        TrialConverter z = Checks.loaded(text);
        due("2: all five arguments", z.weight(0, 1) + z.count(3), 10);
    }

    private static void p3Load() {
        TrialConverter x = new TrialConverter();
        due("3: weights", Checks.loadText(x, NOISY), 4);
        due("3: seed", x.count(3), 5);
        x.convert(3);
        x.setTable(0, 900);
        due("3: other converter", Checks.loadText(x, PLAIN), 3);
        due("3: no seed", x.count(3), 0);
        due("3: no conversions", x.count(4), 0);
        due("3: no codes seen", x.count(5), 0);
        due("3: table as told", x.count(7), 7);
        Checks.dueThrow("3: the buffer is empty", ARGUMENT, () -> x.load(1));
        x.convert(5);
        due("3: error", Checks.loadText(x, "comparator 0 0; weight 9 9 0; seed 1"), -2);
        due("3: the present one stays", x.count(1), 3);
        due("3: its conversions stay", x.conversion(0, 1), 5);
        Checks.dueThrow("3: the buffer is empty then too", ARGUMENT, () -> x.load(1));
        due("3: nothing", x.load(0), -2);
        Checks.appendText(x, PLAIN);
        Checks.dueThrow("3: length below 0", ARGUMENT, () -> x.load(-1));
        Checks.dueThrow("3: length above the buffer", ARGUMENT, () -> x.load(61));
        due("3: the buffer stayed", x.load(60), 3);
    }

    private static void error(String text, int code, int position) {
        TrialConverter x = new TrialConverter();
        due("3: '" + text + "'", Checks.loadText(x, text), code);
        due("4: '" + text + "'", x.errorPosition(), position);
    }

    private static void p3LoadErrors() {
        String c = "comparator 0 0;";
        String w = "weight 1 1 0;";
        error("", -2, 0);
        error("   ", -2, 3);
        error("Comparator 0 0;", -2, 0);
        error(" comparators 0 0;", -2, 1);
        error("comparatora 0 0;", -2, 0);
        error("comparatorz 0 0;", -2, 0);
        error(w, -2, 0);
        error("compara", -2, 0);
        error("comparator;", -2, 10);
        error("comparator - - 1 0;", -2, 13);
        error("comparator + 1 0;", -2, 11);
        error("comparator 1 -1;", -2, 13);
        error("comparator 1;", -2, 12);
        error("comparator 1 1 1;", -2, 15);
        error("comparator 1\t1;", -2, 12);
        error("comparator 51 0;", -3, 11);
        error("comparator -  51 99;", -3, 14);
        error("comparator 0 31;", -3, 13);
        error("comparator 99999999999999999999 0;", -3, 11);
        error("comparator 4294967296 0;", -3, 11);
        error(c + "weight 0 1 0;", -3, 22);
        error(c + "weight 513 1 0;", -3, 22);
        error(c + "weight 1 0 0;", -3, 24);
        error(c + "weight 1 513 0;", -3, 24);
        error(c + "weight 1 1 1;", -3, 26);
        error(c + "weight -1 1 0;", -2, 22);
        error(c + "weight 1 1 0", -2, 27);
        error(c + "weight 1 1 0  ", -2, 29);
        error(c + "seed 1;", -2, 15);
        error(c + ";", -2, 15);
        error(c + w + c, -2, 28);
        error(c + w + "seed 65536;", -3, 33);
        error(c + w + "seed ;", -2, 33);
        error(c + w + "seed 1", -2, 34);
        error(c + w + "seed 1;" + w, -2, 35);
        error(c + w + "seed 1;seed 1;", -2, 35);
        error(c + w + "\u00ff", -2, 28);
        error(c + w + "\u0000", -2, 28);
        error(c + w + "seed 1;" + (char) 0xa0, -2, 35);
        error(c + c + c + c, -4, 45);
        error(c + c + c + "comparator 99 99 99", -4, 45);
        error(c + c + c + "comparatorx", -2, 45);
        error(c + w.repeat(10) + " " + w, -4, 146);
        error(c + w.repeat(10) + "weight", -4, 145);
        error(c + w.repeat(10) + "comparator", -2, 145);
    }

    private static void p3LoadEdges() {
        TrialConverter x = new TrialConverter();
        String text = "  comparator-50 30;comparator -   50 0 ;comparator 00000000000050 0;"
                + "weight512 1 2;weight 1 512 0 ;" + "weight 1 1 1;".repeat(8) + " seed65535 ;  ";
        due("3: as much as can be", Checks.loadText(x, text), 10);
        due("3: offset 0", x.comparator(0, 0), -50);
        due("3: offset 1", x.comparator(1, 0), -50);
        due("3: offset 2", x.comparator(2, 0), 50);
        due("3: amplitude", x.comparator(0, 1), 30);
        due("3: weights", x.weight(0, 0) + x.weight(1, 1), 1024);
        due("3: the third comparator", x.weight(0, 2), 2);
        due("3: seed", x.count(3), 65535);
        due("3: seed 0", Checks.loaded(PLAIN + "seed 0;").count(3), 0);
        due("3: -0", Checks.loadText(x, "comparator - 0 0; weight 1 1 0;"), 1);
        String full = "comparator 0 0;weight 1 1 0;" + " ".repeat(372);
        due("3: 400 bytes", Checks.loadText(x, full), 1);
        due("3: the first bytes alone", appendAndLoad(x, PLAIN + "x", PLAIN.length()), 3);
    }

    private static int appendAndLoad(TrialConverter x, String text, int length) {
        Checks.appendText(x, text);
        return x.load(length);
    }

    private static void p4ErrorPosition() {
        TrialConverter x = new TrialConverter();
        due("4: no call", x.errorPosition(), -1);
        Checks.loadText(x, "comparator 0 31;");
        due("4: error", x.errorPosition(), 13);
        Checks.dueThrow("4: wrong length", ARGUMENT, () -> x.load(1));
        due("4: a throw changes nothing", x.errorPosition(), 13);
        Checks.loadText(x, PLAIN);
        due("4: no error", x.errorPosition(), -1);
        Checks.loadText(x, "?");
        due("4: error at 0", x.errorPosition(), 0);
        x.undo();
        due("4: undo leaves it", x.errorPosition(), 0);
    }

    private static void p5Count() {
        TrialConverter x = Checks.loaded(NOISY);
        due("5: comparators", x.count(0), 2);
        due("5: weights", x.count(1), 4);
        due("5: range", x.count(2), 15);
        due("5: noise", x.count(3), 5);
        x.average(15, 3);
        x.convert(0);
        due("5: kept", x.count(4), 4);
        due("5: different", x.count(5), 2);
        due("5: seen", x.count(6), 4);
        x.forget(2);
        due("5: seen that were not forgotten", x.count(6), 3);
        due("5: kept still", x.count(4), 4);
        x.average(15, 16);
        due("5: 20 at most", x.count(4), 20);
        due("5: all seen", x.count(6), 19);
        due("5: none can be calibrated", x.count(8), 0);
        x.setTable(3, 101);
        due("5: sum of the table", x.count(7), 115);
        due("5: range by the actual ones", Checks.loaded(SPARE).count(2), 12);
        due("5: can be calibrated", Checks.loaded(SPARE).count(8), 4);
        Checks.dueThrow("5: -1", ARGUMENT, () -> x.count(-1));
        Checks.dueThrow("5: 9", ARGUMENT, () -> x.count(9));
    }

    private static void p6Comparator() {
        TrialConverter x = Checks.loaded(NOISY);
        due("6: offset", x.comparator(1, 0), 2);
        due("6: amplitude", x.comparator(1, 1), 1);
        due("6: users of 1", x.comparator(1, 2), 3);
        due("6: users of 0", x.comparator(0, 2), 1);
        Checks.dueThrow("6: comparator -1", INDEX, () -> x.comparator(-1, 0));
        Checks.dueThrow("6: comparator 2", INDEX, () -> x.comparator(2, 0));
        Checks.dueThrow("6: comparator ahead of what", INDEX, () -> x.comparator(2, 9));
        Checks.dueThrow("6: what -1", ARGUMENT, () -> x.comparator(0, -1));
        Checks.dueThrow("6: what 3", ARGUMENT, () -> x.comparator(0, 3));
    }

    private static void p7Weight() {
        TrialConverter x = Checks.loaded(SPARE);
        due("7: told", x.weight(0, 0), 4);
        due("7: actual", x.weight(0, 1), 5);
        due("7: comparator", Checks.loaded(NOISY).weight(0, 2), 1);
        x.setTable(0, 77);
        due("7: number", x.weight(0, 3), 77);
        due("7: told still", x.weight(0, 0), 4);
        due("7: redundancy", x.weight(0, 4), 2);
        due("7: no redundancy", x.weight(3, 4), 0);
        due("7: can with no redundancy", x.weight(3, 5), 1);
        due("7: the last one", x.weight(4, 4), -1);
        due("7: the last one cannot", x.weight(4, 5), 0);
        due("7: one too little", Checks.loaded(PLAIN).weight(0, 5), 0);
        Checks.dueThrow("7: weight -1", INDEX, () -> x.weight(-1, 0));
        Checks.dueThrow("7: weight 5", INDEX, () -> x.weight(5, 9));
        Checks.dueThrow("7: what -1", ARGUMENT, () -> x.weight(0, -1));
        Checks.dueThrow("7: what 6", ARGUMENT, () -> x.weight(0, 6));
    }

    private static void p8SetTable() {
        TrialConverter x = Checks.loaded(PLAIN);
        due("8: previous", x.setTable(0, 1023), 4);
        due("8: previous then", x.setTable(0, 0), 1023);
        due("8: number", x.weight(0, 3), 0);
        due("8: another one stays", x.weight(1, 3), 2);
        due("8: the code", x.quiet(7), 3);
        Checks.dueThrow("8: weight -1", INDEX, () -> x.setTable(-1, 0));
        Checks.dueThrow("8: weight 3", INDEX, () -> x.setTable(3, 1024));
        Checks.dueThrow("8: -1", ARGUMENT, () -> x.setTable(0, -1));
        Checks.dueThrow("8: 1024", ARGUMENT, () -> x.setTable(0, 1024));
        due("8: throws change nothing", x.weight(0, 3), 0);
    }

    private static void p9ResetTable() {
        TrialConverter x = Checks.loaded(SPARE);
        due("9: none", x.resetTable(), 0);
        x.setTable(0, 9);
        x.setTable(1, 3);
        x.setTable(4, 0);
        due("9: two", x.resetTable(), 2);
        due("9: told, not actual", x.weight(0, 3), 4);
        due("9: the sum", x.count(7), 11);
    }

    private static void p10Calibrate() {
        TrialConverter x = Checks.loaded(SPARE);
        due("10: measures the actual weight", x.calibrate(0, 1), 5);
        due("10: in the table", x.weight(0, 3), 5);
        due("10: others stay", x.weight(1, 3), 3);
        x.setTable(3, 8);
        due("10: with those behind it as in the table", x.calibrate(2, 16), 9);
        x.setTable(3, 1023);
        x.setTable(4, 1023);
        due("10: not more than 1023", x.calibrate(2, 3), 1023);
        due("10: nothing kept", x.count(4), 0);
        due("10: nothing counted", x.count(5), 0);
        Checks.dueThrow("10: weight -1", INDEX, () -> x.calibrate(-1, 1));
        Checks.dueThrow("10: weight 5", INDEX, () -> x.calibrate(5, 0));
        Checks.dueThrow("10: 0 conversions", ARGUMENT, () -> x.calibrate(0, 0));
        Checks.dueThrow("10: 17 conversions", ARGUMENT, () -> x.calibrate(4, 17));
        Checks.dueThrow("10: the last one", STATE, () -> x.calibrate(4, 16));
        TrialConverter plain = Checks.loaded(PLAIN);
        Checks.dueThrow("10: too little behind it", STATE, () -> plain.calibrate(0, 1));
        // The input 0 has the bits of weights 2 and 3, the input 4 all behind it: 1000 less.
        TrialConverter y = Checks.loaded("comparator 4 0; comparator 0 0;"
                + "weight 4 4 1; weight 3 3 1; weight 1 2 0; weight 5 2 0;");
        y.setTable(1, 0);
        y.setTable(2, 10);
        y.setTable(3, 20);
        due("10: never below 0", y.calibrate(0, 1), 0);
    }

    /** The noise state goes on by one draw for each trial; first come all of the weight, then all of 0. */
    private static void p10CalibrateWithNoise() {
        String pair = "comparator 0 1; weight 1 1 0; weight 1 1 0; seed ";
        TrialConverter x = Checks.loaded(pair + "5;");
        // Noises -1, 0 at the input 1: bits 0, 1. Noises 1, -1 at the input 0: bits 1, 0. So d is 0.
        due("10: the weight's input first", x.calibrate(0, 2), 0);
        due("10: four draws", x.count(3), noiseAfter(5, 4));
        // Noises 0, 1 at the input 1: bits 1, 1. Noises 1, 0 at the input 0: bits 1, 0.
        TrialConverter y = Checks.loaded(pair + "12;");
        due("10: (2 * 1 + 2) / 4", y.calibrate(0, 2), 1);
        y.setTable(1, 3);
        y.setNoise(12);
        due("10: (2 * 3 + 2) / 4", y.calibrate(0, 2), 2);
        y.setTable(1, 4);
        y.setNoise(12);
        due("10: (2 * 4 + 2) / 4", y.calibrate(0, 2), 2);
        // Noises -1, -1 at the input 1: bits 0, 0. Noises 1, 0 at the input 0: bits 1, 0.
        TrialConverter z = Checks.loaded(pair + "6;");
        z.setTable(1, 900);
        due("10: (2 * -900 + 2) / 4", z.calibrate(0, 2), 0);
    }

    private static int noiseAfter(int seed, int draws) {
        long state = seed;
        for (int n = 0; n < draws; n++) {
            state = (state * 20077 + 12345) % 65536;
        }
        return (int) state;
    }

    private static void p11CalibrateAll() {
        TrialConverter x = Checks.loaded(SPARE);
        due("11: one is another", x.calibrateAll(1), 1);
        due("11: it is 5", x.weight(0, 3), 5);
        due("11: none then", x.calibrateAll(16), 0);
        x.setTable(4, 6);
        // From the last one on: 3 becomes 6, 2 becomes 12, 1 becomes 12 + 6, 0 becomes 18 + 12.
        due("11: each with the table as it is", x.calibrateAll(2), 4);
        due("11: weight 3", x.weight(3, 3), 6);
        due("11: weight 2", x.weight(2, 3), 12);
        due("11: weight 1", x.weight(1, 3), 18);
        due("11: weight 0", x.weight(0, 3), 30);
        x.undo();
        due("11: one change", x.count(7), 5 + 3 + 2 + 1 + 6);
        TrialConverter full = Checks.loaded("comparator 0 2;" + "weight 1 2 0;".repeat(10) + "seed 7;");
        due("11: ten weights", full.calibrateAll(1) >= 0, true);
        // The weight k is measured by 2 conversions with 9 - k weights each.
        due("11: ten weights draw", full.count(3), noiseAfter(7, 90));
        due("11: none can", Checks.loaded(PLAIN).calibrateAll(1), 0);
        Checks.dueThrow("11: 0", ARGUMENT, () -> x.calibrateAll(0));
        Checks.dueThrow("11: 17", ARGUMENT, () -> x.calibrateAll(17));
    }

    private static void p12SetNoise() {
        TrialConverter x = Checks.loaded(NOISY);
        due("12: previous", x.setNoise(65535), 5);
        due("12: previous then", x.setNoise(0), 65535);
        due("12: the state", x.count(3), 0);
        Checks.dueThrow("12: -1", ARGUMENT, () -> x.setNoise(-1));
        Checks.dueThrow("12: 65536", ARGUMENT, () -> x.setNoise(65536));
        x.setNoise(65535);
        x.convert(0);
        due("12: from the greatest state", x.count(3), noiseAfter(65535, 3));
    }

    private static void p13Convert() {
        TrialConverter x = Checks.loaded(NOISY);
        // 5 + 2 - 1 < 8; 5 >= 4; 5 + 2 + 0 >= 6; 5 + 2 + 1 >= 7.
        due("13: code", x.convert(5), 7);
        due("13: no draw without amplitude", x.count(3), noiseAfter(5, 3));
        due("13: kept", x.count(4), 1);
        due("13: counted", x.seen(7), 1);
        due("13: greatest input", x.convert(9999), 15);
        due("13: least input", Checks.loaded(PLAIN).convert(0), 0);
        due("13: at least the threshold", Checks.loaded(PLAIN).convert(4), 4);
        TrialConverter y = Checks.loaded(PLAIN);
        y.setTable(0, 1023);
        due("13: by the table", y.convert(5), 1024);
        Checks.dueThrow("13: -1", ARGUMENT, () -> x.convert(-1));
        Checks.dueThrow("13: 10000", ARGUMENT, () -> x.convert(10000));
        due("13: throws keep nothing", x.count(4), 2);
    }

    private static void p14Average() {
        TrialConverter x = Checks.loaded("comparator 0 1; weight 1 1 0; weight 3 1 0; seed 5;");
        // Noises -1, 0 and 1, -1: the codes 3 and 1 at the input 1.
        due("14: 3 and 1", x.average(1, 2), 2f);
        due("14: kept", x.count(4), 2);
        due("14: the latest", x.conversion(0, 1), 1);
        due("14: seen", x.seen(3), 1);
        due("14: noise goes on", x.count(3), noiseAfter(5, 4));
        due("14: one change", x.undo(), 1);
        due("14: undone", x.count(4) + x.count(6), 0);
        TrialConverter y = Checks.loaded("comparator 0 1; weight 1 1 0; seed 5;");
        // Noises -1, 0, 1: the input 1 gives 0, 1, 1.
        due("14: two thirds as float", y.average(1, 3), 2f / 3f);
        due("14: 16 at most", y.average(9999, 16), 1f);
        due("14: the input 0, once", Checks.loaded(PLAIN).average(0, 1), 0f);
        Checks.dueThrow("14: input -1", ARGUMENT, () -> x.average(-1, 1));
        Checks.dueThrow("14: input 10000", ARGUMENT, () -> x.average(10000, 1));
        Checks.dueThrow("14: 0 conversions", ARGUMENT, () -> x.average(0, 0));
        Checks.dueThrow("14: 17 conversions", ARGUMENT, () -> x.average(0, 17));
    }

    private static void p15Quiet() {
        TrialConverter x = Checks.loaded(NOISY);
        // 6 + 2 >= 8; 6 < 12; 8 < 10; 8 < 9.
        due("15: with offset", x.quiet(6), 8);
        due("15: below it", x.quiet(5), 7);
        due("15: noise stays", x.count(3), 5);
        due("15: nothing kept", x.count(4) + x.count(5), 0);
        due("15: greatest", x.quiet(9999), 15);
        due("15: least", x.quiet(0), 2);
        Checks.dueThrow("15: -1", ARGUMENT, () -> x.quiet(-1));
        Checks.dueThrow("15: 10000", ARGUMENT, () -> x.quiet(10000));
        due("15: no change", x.undo(), 0);
    }

    private static void p16Spread() {
        TrialConverter x = Checks.loaded("comparator 0 1; weight 1 1 0; weight 3 1 0; seed 5;");
        due("16: 3 alone", x.spread(1, 1), 0);
        due("16: 3 and 1", x.spread(1, 2), 2);
        due("16: noise stays", x.count(3), 5);
        due("16: nothing kept", x.count(4) + x.count(5), 0);
        due("16: as the next ones", x.average(1, 2), 2f);
        due("16: all noise", x.spread(5, 16), 0);
        due("16: the input 0", Checks.loaded(PLAIN).spread(0, 2), 0);
        Checks.dueThrow("16: input -1", ARGUMENT, () -> x.spread(-1, 1));
        Checks.dueThrow("16: input 10000", ARGUMENT, () -> x.spread(10000, 1));
        Checks.dueThrow("16: 0 conversions", ARGUMENT, () -> x.spread(0, 0));
        Checks.dueThrow("16: 17 conversions", ARGUMENT, () -> x.spread(0, 17));
    }

    private static void p17Conversion() {
        TrialConverter x = Checks.loaded(SPARE);
        x.convert(9);
        x.convert(200);
        due("17: input", x.conversion(1, 0), 9);
        due("17: code", x.conversion(1, 1), 8);
        due("17: bits", x.conversion(1, 2), 0b01011);
        due("17: level", x.conversion(1, 3), 9);
        due("17: latest", x.conversion(0, 0), 200);
        due("17: its level", x.conversion(0, 3), 12);
        x.setTable(1, 100);
        due("17: code as it was", x.conversion(1, 1), 8);
        due("17: code as it is", x.conversion(1, 4), 105);
        Checks.dueThrow("17: back -1", INDEX, () -> x.conversion(-1, 0));
        Checks.dueThrow("17: back 2", INDEX, () -> x.conversion(2, 9));
        Checks.dueThrow("17: what -1", ARGUMENT, () -> x.conversion(0, -1));
        Checks.dueThrow("17: what 5", ARGUMENT, () -> x.conversion(0, 5));
        for (int n = 0; n < 20; n++) {
            x.convert(n);
        }
        due("17: the oldest kept", x.conversion(19, 0), 0);
        Checks.dueThrow("17: back 20", INDEX, () -> x.conversion(20, 0));
        x.average(7, 2);
        due("17: average's are kept", x.conversion(1, 0), 7);
        due("17: the oldest kept then", x.conversion(19, 0), 2);
    }

    private static void p18Trial() {
        TrialConverter x = Checks.loaded(NOISY);
        x.convert(5);
        int[] thresholds = {8, 4, 6, 7};
        int[] noises = {-1, 0, 0, 1};
        int[] bits = {0, 1, 1, 1};
        x.convert(15);
        for (int k = 0; k < 4; k++) {
            due("18: threshold " + k, x.trial(1, k, 0), thresholds[k]);
            due("18: noise " + k, x.trial(1, k, 1), noises[k]);
            due("18: bit " + k, x.trial(1, k, 2), bits[k]);
            due("18: bit of the latest " + k, x.trial(0, k, 2), 1);
        }
        due("18: threshold above others", x.trial(0, 3, 0), 15);
        Checks.dueThrow("18: back -1", INDEX, () -> x.trial(-1, 0, 0));
        Checks.dueThrow("18: back 2", INDEX, () -> x.trial(2, 0, 0));
        Checks.dueThrow("18: weight -1", INDEX, () -> x.trial(0, -1, 0));
        Checks.dueThrow("18: weight 4", INDEX, () -> x.trial(0, 4, 3));
        Checks.dueThrow("18: what -1", ARGUMENT, () -> x.trial(0, 0, -1));
        Checks.dueThrow("18: what 3", ARGUMENT, () -> x.trial(0, 0, 3));
    }

    private static void p19DecidedWrong() {
        TrialConverter x = Checks.loaded("comparator 1 0; comparator -1 0; weight 4 4 0; weight 2 2 1; weight 1 1 0;");
        due("19: none kept", x.decidedWrong(), 0);
        // 3 + 1 >= 4 but 3 < 4; 3 - 1 < 6; 3 + 1 < 5.
        x.convert(3);
        due("19: one greater", x.decidedWrong(), 1);
        // 2 + 1 < 4; 2 - 1 < 2 but 2 >= 2; 2 + 1 >= 1 and 2 >= 1.
        x.convert(2);
        due("19: one less", x.decidedWrong(), 2);
        x.convert(4);
        due("19: the threshold as it is", x.decidedWrong(), 3);
        x.average(9999, 16);
        x.convert(9999);
        due("19: 20 kept", x.decidedWrong(), 3);
        x.convert(9999);
        due("19: kept ones alone", x.decidedWrong(), 2);
        Checks.loadText(x, PLAIN);
        x.convert(3);
        due("19: of the new converter alone", x.decidedWrong(), 0);
        x.setTable(0, 3);
        Checks.loadText(x, "comparator 9 0; weight 4 4 0;");
        due("19: none kept behind a load", x.decidedWrong(), 0);
        x.average(0, 3);
        due("19: each of them", x.decidedWrong(), 3);
        Checks.loadText(x, "comparator 0 0; weight 4 4 0;");
        x.convert(0);
        due("19: none of those behind a load", x.decidedWrong(), 0);
    }

    private static void p20Seen() {
        TrialConverter x = Checks.loaded(PLAIN);
        due("20: not seen", x.seen(3), 0);
        x.average(3, 16);
        x.average(3, 16);
        due("20: also those not kept", x.seen(3), 32);
        due("20: another", x.seen(4), 0);
        due("20: any number", x.seen(Integer.MIN_VALUE) + x.seen(Integer.MAX_VALUE) + x.seen(-1), 0);
        x.setTable(1, 50);
        due("20: by the code as it was", x.seen(3), 32);
        x.quiet(5);
        x.spread(5, 3);
        due("20: quiet ones and spreads are not", x.seen(5), 0);
    }

    private static void p21SeenAt() {
        TrialConverter x = Checks.loaded(PLAIN);
        Checks.dueThrow("21: none", INDEX, () -> x.seenAt(0));
        x.convert(5);
        x.convert(2);
        x.convert(5);
        x.convert(7);
        due("21: first", x.seenAt(0), 5);
        due("21: second", x.seenAt(1), 2);
        due("21: third", x.seenAt(2), 7);
        Checks.dueThrow("21: -1", INDEX, () -> x.seenAt(-1));
        Checks.dueThrow("21: 3", INDEX, () -> x.seenAt(3));
        for (int n = 0; n < 200; n++) {
            x.setTable(0, 100 + n);
            x.convert(4);
        }
        due("21: many", x.seenAt(202), 299);
        due("21: many different", x.count(5), 203);
    }

    private static void p22MostSeen() {
        TrialConverter x = Checks.loaded(PLAIN);
        Checks.dueThrow("22: none", ELEMENT, x::mostSeen);
        x.convert(6);
        x.convert(1);
        due("22: the first of several", x.mostSeen(), 6);
        x.convert(1);
        due("22: most often", x.mostSeen(), 1);
        x.convert(6);
        due("22: the first of several again", x.mostSeen(), 6);
        x.forget(9);
        Checks.dueThrow("22: all forgotten", ELEMENT, x::mostSeen);
        x.convert(6);
        x.average(1, 5);
        x.undo();
        due("22: not one that was undone", x.mostSeen(), 6);
        due("23: not one that was undone", x.forget(2), 1);
    }

    private static void p23Forget() {
        TrialConverter x = Checks.loaded(PLAIN);
        due("23: none seen", x.forget(1000), 0);
        x.convert(3);
        x.average(5, 2);
        x.convert(1);
        x.average(2, 3);
        due("23: none less than once", x.forget(1), 0);
        due("23: two", x.forget(2), 2);
        due("23: as often stays", x.seenAt(0), 5);
        due("23: order stays", x.seenAt(1), 2);
        due("23: forgotten", x.seen(3), 0);
        due("23: times stay", x.seen(2), 3);
        due("23: kept stay", x.count(4), 7);
        x.convert(3);
        due("23: a new place", x.seenAt(2), 3);
        due("23: from 1 again", x.seen(3), 1);
        Checks.dueThrow("23: 0", ARGUMENT, () -> x.forget(0));
        Checks.dueThrow("23: 1001", ARGUMENT, () -> x.forget(1001));
        due("23: all", x.forget(1000), 3);
    }

    private static void p24To26CodesAndMissing() {
        TrialConverter x = Checks.loaded(PLAIN);
        due("24: all", x.codes(), 8);
        due("25: none", x.missing(), 0);
        Checks.dueThrow("26: none", ELEMENT, () -> x.missingAt(0));
        x.setTable(0, 6);
        // The ramp is 0, 1, 2, 3, 6, 7, 8, 9.
        due("24: as many", x.codes(), 8);
        due("25: two", x.missing(), 2);
        due("26: the least", x.missingAt(0), 4);
        due("26: the next", x.missingAt(1), 5);
        Checks.dueThrow("26: 2", ELEMENT, () -> x.missingAt(2));
        Checks.dueThrow("26: -1", ELEMENT, () -> x.missingAt(-1));
        x.setTable(0, 2);
        // 0, 1, 2, 3, 2, 3, 4, 5.
        due("24: different ones", x.codes(), 6);
        due("25: between least and greatest", x.missing(), 0);
        x.setTable(0, 1023);
        due("25: many", x.missing(), 1019);
        due("26: the last", x.missingAt(1018), 1022);
        TrialConverter y = Checks.loaded("comparator 50 0; weight 512 9 0; weight 512 9 0;");
        due("24: one code", y.codes(), 1);
        due("25: none below the least", y.missing(), 0);
        y.setTable(0, 0);
        y.setTable(1, 0);
        due("24: 0 alone", y.codes(), 1);
        due("25: 0 alone", y.missing(), 0);
        Checks.dueThrow("33: 0 alone", ELEMENT, () -> y.inputFor(1));
        TrialConverter z = Checks.loaded("comparator 0 0;" + "weight 512 512 0;".repeat(10));
        for (int k = 0; k < 10; k++) {
            z.setTable(k, 1023);
        }
        due("24: the longest ramp", z.codes(), 11);
        due("25: the longest ramp", z.missing(), 10220);
        due("26: the longest ramp", z.missingAt(10219), 10229);
    }

    private static void p27To28Widths() {
        TrialConverter x = Checks.loaded(SPARE);
        // 0, 1, 2, 3, 4, then 4 (input 5), 5, 6, 7, 8, 9, 10, 11.
        due("27: one", x.width(3), 1);
        due("27: two", x.width(4), 2);
        due("27: none", x.width(12), 0);
        due("27: any number", x.width(Integer.MIN_VALUE) + x.width(Integer.MAX_VALUE) + x.width(-1), 0);
        due("28: widest", x.widest(), 4);
        due("28: the least of several", Checks.loaded(PLAIN).widest(), 0);
        x.setTable(0, 3);
        // 0, 1, 2, 3, 4, 3, 4, 5, 6, 7, 8, 9, 10: 3 and 4 are there twice.
        due("28: the least of two", x.widest(), 3);
        TrialConverter y = Checks.loaded("comparator 50 0; weight 512 9 0; weight 512 9 0;");
        due("27: all inputs", y.width(1024), 19);
        due("28: the least is not 0", y.widest(), 1024);
        // 1, 2, 3, 3.
        due("28: the greatest", Checks.loaded(AHEAD).widest(), 3);
    }

    private static void p29To31StepsAndErrors() {
        TrialConverter x = Checks.loaded(PLAIN);
        due("29: none", x.stepsBack(), 0);
        due("30: all are 0", x.worstInput(), 0);
        due("31: no error", x.meanError(), 0.0);
        x.setTable(0, 2);
        // 0, 1, 2, 3, 2, 3, 4, 5.
        due("29: one", x.stepsBack(), 1);
        due("30: the least of four", x.worstInput(), 4);
        due("31: 8 / 8", x.meanError(), 1.0);
        x.setTable(1, 0);
        // 0, 1, 0, 1, 2, 3, 2, 3.
        due("29: two", x.stepsBack(), 2);
        due("30: below", x.worstInput(), 6);
        due("31: 16 / 8", x.meanError(), 2.0);
        TrialConverter y = Checks.loaded(SPARE);
        due("30: an error below 0", y.worstInput(), 5);
        due("31: 8 / 13", y.meanError(), 8.0 / 13.0);
        y.setTable(0, 20);
        due("30: an error above 0", y.worstInput(), 5);
        TrialConverter z = Checks.loaded("comparator 2 0; weight 8 9 0; weight 1 1 0;");
        // c(0) is 1, c(7) is 8: 1, 0, 1, 2, 3, 4, 5, 1, 1, 0, 1: the worst is 5 at 6.
        due("30: in the midst", z.worstInput(), 6);
    }

    private static void p29To31Ends() {
        TrialConverter ahead = Checks.loaded(AHEAD);
        ahead.setTable(0, 0);
        // 1, 0, 1, 1.
        due("29: at 1, and not as one code", ahead.stepsBack(), 1);
        due("34: at 1", ahead.risingFrom(), 1);
        due("31: 5 / 4", ahead.meanError(), 1.25);
        TrialConverter behind = Checks.loaded("comparator -1 0; weight 2 2 0; weight 1 1 0;");
        behind.setTable(0, 0);
        // 0, 0, 1, 0.
        due("29: at the range", behind.stepsBack(), 1);
        due("34: at the range", behind.risingFrom(), 3);
        due("30: at the range", behind.worstInput(), 3);
        due("31: 5 / 4 again", behind.meanError(), 1.25);
        TrialConverter flat = Checks.loaded("comparator 50 0; weight 512 9 0; weight 512 9 0;");
        due("29: one code", flat.stepsBack(), 0);
        due("30: at 0", flat.worstInput(), 0);
        due("31: 19285 / 19", flat.meanError(), 1015.0);
        TrialConverter pair = Checks.loaded("comparator 0 0; weight 1 1 0; weight 1 1 0;");
        pair.setTable(0, 9);
        due("30: at 1", pair.worstInput(), 1);
    }

    private static void p32Absorbs() {
        TrialConverter x = Checks.loaded(PLAIN);
        due("32: nothing", x.absorbs(0, false), 0);
        due("32: nothing less", x.absorbs(0, true), 0);
        due("32: the last one", x.absorbs(2, false), 0);
        TrialConverter one = new TrialConverter();
        due("32: by the input 0 alone", one.absorbs(0, false), 0);
        due("32: by the range alone", one.absorbs(0, true), 0);
        TrialConverter y = Checks.loaded("comparator 0 0; weight 4 4 0; weight 3 3 0; weight 2 2 0; weight 1 1 0;");
        // The weights behind it make 6 at most; with 4 less the input 7 has to be made by them.
        due("32: redundant, less", y.absorbs(0, true), 3);
        due("32: nothing behind it takes a bit back", y.absorbs(0, false), 0);
        y.setTable(0, 9);
        // The errors are 5 from the input 4 on; without the last bit they are 4 or 5, and 1 at the input 1.
        due("32: never worse than it is", y.absorbs(3, true), 100);
        due("32: worse at the input 4 at once", y.absorbs(3, false), 0);
        Checks.dueThrow("32: -1", INDEX, () -> y.absorbs(-1, true));
        Checks.dueThrow("32: 4", INDEX, () -> y.absorbs(4, false));
        // The first trial is decided at 7 and not at 4, so 3 more are right still, and 1 less is too much.
        TrialConverter z = Checks.loaded("comparator -3 0; comparator 0 0; weight 4 4 0; weight 3 3 1; weight 2 2 1;"
                + " weight 1 1 1;");
        due("32: with an offset, less", z.absorbs(0, true), 0);
        due("32: with an offset, greater", z.absorbs(0, false), 3);
        // With e less the inputs from 100 to 99 + e are made by those behind it: by 198 or 199 at most.
        String steps = "comparator 0 0;" + same(100) + same(99) + same(50) + same(25) + same(12) + same(6) + same(3)
                + same(2) + same(1);
        due("32: 100 is too much", Checks.loaded(steps).absorbs(0, true), 99);
        due("32: 101 is not looked at", Checks.loaded(steps + same(1)).absorbs(0, true), 100);
    }

    private static String same(int weight) {
        return "weight " + weight + " " + weight + " 0;";
    }

    private static void p33InputFor() {
        TrialConverter x = Checks.loaded(PLAIN);
        due("33: itself", x.inputFor(5), 5);
        due("33: any number", x.inputFor(Integer.MIN_VALUE), 0);
        due("33: greatest", x.inputFor(7), 7);
        Checks.dueThrow("33: none", ELEMENT, () -> x.inputFor(8));
        Checks.dueThrow("33: none at all", ELEMENT, () -> x.inputFor(Integer.MAX_VALUE));
        x.setTable(0, 6);
        due("33: at least", x.inputFor(4), 4);
        x.setTable(0, 2);
        // 0, 1, 2, 3, 2, 3, 4, 5.
        due("33: the least input", x.inputFor(3), 3);
        due("33: behind the step back", x.inputFor(4), 6);
    }

    private static void p34RisingFrom() {
        TrialConverter x = Checks.loaded(PLAIN);
        due("34: no step back", x.risingFrom(), 0);
        x.setTable(0, 2);
        due("34: one", x.risingFrom(), 4);
        x.setTable(1, 0);
        due("34: the last one", x.risingFrom(), 6);
        x.setTable(2, 0);
        x.setTable(1, 2);
        x.setTable(0, 1);
        // 0, 0, 2, 2, 1, 1, 3, 3.
        due("34: at 4 alone", x.risingFrom(), 4);
        TrialConverter y = Checks.loaded("comparator 0 0; weight 1 1 0; weight 1 1 0;");
        y.setTable(1, 0);
        due("34: as one code", y.risingFrom(), 0);
    }

    private static void rampsFollowEveryChange() {
        TrialConverter x = Checks.loaded(SPARE);
        x.save(0);
        due("24: at first", x.width(4), 2);
        x.setTable(0, 5);
        due("24: behind setTable", x.width(4), 1);
        x.resetTable();
        due("24: behind resetTable", x.width(4), 2);
        x.calibrate(0, 1);
        due("24: behind calibrate", x.width(4), 1);
        x.restore(0);
        due("24: behind restore", x.width(4), 2);
        x.calibrateAll(1);
        due("24: behind calibrateAll", x.width(4), 1);
        x.undo();
        due("24: behind undo", x.width(4), 2);
        Checks.loadText(x, PLAIN);
        due("24: behind load", x.width(4), 1);
    }

    private static String writtenText(TrialConverter x, int length) {
        StringBuilder text = new StringBuilder();
        for (int n = 0; n < length; n++) {
            text.append((char) x.writtenByte(n));
        }
        return text.toString();
    }

    private static void p35And36Written() {
        TrialConverter x = Checks.loaded(SPARE);
        Checks.dueThrow("36: none at first", INDEX, () -> x.writtenByte(0));
        Checks.dueThrow("35: none kept", INDEX, () -> x.writeConversion(0));
        x.convert(9);
        x.convert(200);
        due("35: length", x.writeConversion(0), 8);
        due("35: text", writtenText(x, 8), "11111=11");
        due("35: length of the other", x.writeConversion(1), 7);
        due("35: text of the other", writtenText(x, 7), "11010=8");
        Checks.dueThrow("36: in place of the old one", INDEX, () -> x.writtenByte(7));
        Checks.dueThrow("36: -1", INDEX, () -> x.writtenByte(-1));
        x.setTable(0, 1023);
        x.writeConversion(1);
        due("35: code as it was", writtenText(x, 7), "11010=8");
        Checks.dueThrow("35: back -1", INDEX, () -> x.writeConversion(-1));
        Checks.dueThrow("35: back 2", INDEX, () -> x.writeConversion(2));
        due("35: throws write nothing", writtenText(x, 7), "11010=8");
        x.undo();
        due("36: undo leaves it", writtenText(x, 7), "11010=8");
        x.convert(0);
        due("35: code 0", x.writeConversion(0), 7);
        due("35: text of code 0", writtenText(x, 7), "00000=0");
    }

    private static void p37Undo() {
        TrialConverter x = new TrialConverter();
        Checks.dueThrow("37: none", STATE, x::undo);
        for (int n = 1; n <= 10; n++) {
            x.setNoise(n);
        }
        for (int left = 7; left >= 0; left--) {
            due("37: left", x.undo(), left);
            due("37: state", x.count(3), left + 2);
        }
        Checks.dueThrow("37: eight at most", STATE, x::undo);
        due("37: the oldest stays", x.count(3), 2);
        x.setNoise(70);
        due("37: a new one", x.undo(), 0);
        due("37: undone", x.count(3), 2);
    }

    private static void p37UndoKeeps() {
        TrialConverter x = Checks.loaded(PLAIN);
        x.convert(5);
        x.writeConversion(0);
        x.append(0, 0, 0, 0, 0);
        x.save(1);
        x.setTable(0, 9);
        x.undo();
        x.undo();
        due("37: buffer stays", x.append(0, 0, 0, 0, 0), 40);
        due("37: written stays", x.writtenByte(0), (int) '1');
        due("37: slot stays", x.restore(1), 7);
        x.load(0);
        x.undo();
        due("37: position stays", x.errorPosition(), 0);
        x.undo();
        due("37: the converter before", x.count(1), 1);
    }

    private static void p37EveryChange() {
        TrialConverter x = Checks.loaded(NOISY);
        due("37: load", x.undo(), 0);
        due("37: the converter before load", x.count(1) * 100 + x.count(0), 101);
        undone("setTable", y -> y.setTable(0, 50));
        undone("setTable of the same", y -> y.setTable(0, 4));
        undone("setNoise", y -> y.setNoise(77));
        undone("resetTable of the same", TrialConverter::resetTable);
        undone("convert", y -> y.convert(3));
        undone("average", y -> y.average(3, 16));
        undone("calibrate", y -> y.calibrate(0, 3));
        undone("calibrateAll", y -> y.calibrateAll(3));
        undone("forget of none", y -> y.forget(1));
        undone("forget", y -> y.forget(3));
        undone("forget of all", y -> y.forget(1000));
        undone("restore", y -> y.restore(0));
        undone("load", y -> Checks.loadText(y, PLAIN));
    }

    private static TrialConverter manyKept() {
        TrialConverter x = Checks.loaded(
                "comparator 0 3; weight 4 5 0; weight 3 3 0; weight 2 2 0; weight 1 1 0; weight 1 1 0;");
        x.average(0, 1);
        for (int input = 1; input < 11; input++) {
            x.average(input, 2);
        }
        x.save(0);
        return x;
    }

    private static void undone(String change, Checks.Asked call) {
        TrialConverter x = manyKept();
        call.answer(x);
        due("37: left behind " + change, x.undo(), 7);
        due("37: undone " + change, Whole.numbers(x), Whole.numbers(manyKept()));
    }

    /** What throws, asks or saves, and a text with an error, is no change. */
    private static void p37NoChange() {
        TrialConverter x = Checks.loaded(SPARE);
        x.save(0);
        x.save(1);
        x.quiet(3);
        x.spread(3, 3);
        x.meanError();
        x.absorbs(0, true);
        Checks.loadText(x, "comparator 0 0;");
        Checks.dueThrow("37: setTable throws", ARGUMENT, () -> x.setTable(0, -1));
        Checks.dueThrow("37: setNoise throws", ARGUMENT, () -> x.setNoise(-1));
        Checks.dueThrow("37: calibrate throws", STATE, () -> x.calibrate(4, 1));
        Checks.dueThrow("37: calibrateAll throws", ARGUMENT, () -> x.calibrateAll(0));
        Checks.dueThrow("37: convert throws", ARGUMENT, () -> x.convert(-1));
        Checks.dueThrow("37: average throws", ARGUMENT, () -> x.average(1, 0));
        Checks.dueThrow("37: forget throws", ARGUMENT, () -> x.forget(0));
        Checks.dueThrow("37: restore throws", INDEX, () -> x.restore(2));
        Checks.dueThrow("37: load throws", ARGUMENT, () -> x.load(1));
        due("37: the load alone", x.undo(), 0);
        due("37: it is undone", x.count(1), 1);
    }

    private static void p38Save() {
        TrialConverter x = Checks.loaded(PLAIN);
        due("38: sum", x.save(0), 7);
        x.setTable(0, 100);
        due("38: sum then", x.save(1), 103);
        due("38: sum of ten", Checks.loaded("comparator 0 0;" + "weight 3 2 0;".repeat(10)).save(0), 30);
        due("38: slot 0 has its own", x.restore(0), 7);
        due("38: in place of what was there", x.save(1), 7);
        x.setTable(0, 100);
        due("38: the newer one", x.restore(1), 7);
        Checks.dueThrow("38: -1", INDEX, () -> x.save(-1));
        Checks.dueThrow("38: 2", INDEX, () -> x.save(2));
    }

    private static void p39Restore() {
        TrialConverter x = Checks.loaded(NOISY);
        Checks.dueThrow("39: nothing there", STATE, () -> x.restore(0));
        x.save(0);
        Checks.dueThrow("39: nothing in the other one", STATE, () -> x.restore(1));
        x.setNoise(99);
        x.setTable(2, 600);
        due("39: sum", x.restore(0), 15);
        due("39: number", x.weight(2, 3), 2);
        due("39: noise", x.count(3), 5);
        x.setTable(2, 601);
        due("39: the slot keeps it", x.restore(0), 15);
        Checks.loadText(x, PLAIN);
        Checks.dueThrow("39: another number of weights", STATE, () -> x.restore(0));
        due("39: a throw changes nothing", x.count(7), 7);
        Checks.loadText(x, "comparator 0 0;" + "weight 9 9 0;".repeat(4));
        due("39: of another converter", x.restore(0), 15);
        due("39: its numbers", x.weight(0, 3), 8);
        due("39: the rest stays", x.weight(0, 1), 9);
        due("39: its noise", x.count(3), 5);
        Checks.dueThrow("39: -1", INDEX, () -> x.restore(-1));
        Checks.dueThrow("39: 2", INDEX, () -> x.restore(2));
    }
}
