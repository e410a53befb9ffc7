import java.util.Arrays;
import java.util.NoSuchElementException;

/** Converts analog inputs to codes by trials with redundant weights; ../shared/DOC.md says what each call does. */
public final class TrialConverter {
    public static final int NONE = -1;
    public static final int SYNTAX_ERROR = -2;
    public static final int VALUE_ERROR = -3;
    public static final int TOO_MANY = -4;

    private static final int MAX_COMPARATORS = 3;
    private static final int MAX_OFFSET = 50;
    private static final int MAX_AMPLITUDE = 30;
    private static final int MAX_WEIGHTS = 10;
    private static final int MAX_WEIGHT = 512;
    private static final int MAX_NUMBER = 1023;
    private static final int MAX_NOISE = 65535;
    private static final int MAX_INPUT = 9999;
    private static final int MAX_CONVERSIONS = 16;
    private static final int MAX_TIMES = 1000;
    private static final int MAX_SHIFT = 100;
    private static final int MAX_TEXT = 400;
    private static final int APPENDED = 20;
    private static final int MAX_KEPT = 20;
    private static final int MAX_UNDO = 8;
    private static final int MAX_RANGE = MAX_WEIGHTS * MAX_WEIGHT;
    private static final int MAX_CODE = MAX_WEIGHTS * MAX_NUMBER;
    private static final int ALL_BITS = -1;

    private final int[] text = new int[MAX_TEXT];
    private int textLength = 0;
    private int errorAt = NONE;
    private final State state;
    private final History history;
    private final Ramp ramp = new Ramp();
    private boolean rampIsFresh = false;
    private final StringBuilder written = new StringBuilder();
    private final Slot firstSlot = new Slot();
    private final Slot secondSlot = new Slot();

    public TrialConverter() {
        Setup first = new Setup();
        first.addComparator(0, 0);
        first.addWeight(1, 1, 0);
        state = new State(first);
        history = new History(first);
    }

    // ---- setup

    public int append(int a, int b, int c, int d, int e) throws IllegalStateException {
        if (textLength > MAX_TEXT - APPENDED) {
            throw new IllegalStateException("the text buffer is full");
        }
        appendBytes(a);
        appendBytes(b);
        appendBytes(c);
        appendBytes(d);
        appendBytes(e);
        return textLength;
    }

    private void appendBytes(int four) {
        for (int shift = 24; shift >= 0 && textLength < MAX_TEXT; shift -= 8) {
            text[textLength] = (four >>> shift) & 255;
            textLength++;
        }
    }

    public int load(int length) throws IllegalArgumentException {
        requireArgument(length, 0, textLength);
        Reader reader = new Reader(text, length);
        boolean good = reader.readText();
        textLength = 0;
        if (!good) {
            errorAt = reader.errorAt;
            return reader.error;
        }
        errorAt = NONE;
        beginChange();
        state.begin(reader.setup);
        return state.setup.weights;
    }

    public int errorPosition() {
        return errorAt;
    }

    public int count(int what) throws IllegalArgumentException {
        switch (what) {
            case 0: return state.setup.comparators;
            case 1: return state.setup.weights;
            case 2: return state.setup.sumBehind(NONE);
            case 3: return state.noise;
            case 4: return state.kept.size;
            case 5: return state.seenCodes.size;
            case 6: return state.seenCodes.timesTogether();
            case 7: return state.tableSum();
            case 8: return state.setup.countCalibratable();
            default: throw new IllegalArgumentException("no such number of the converter");
        }
    }

    public int comparator(int comparator, int what) throws IndexOutOfBoundsException, IllegalArgumentException {
        Setup setup = state.setup;
        if (comparator < 0 || comparator >= setup.comparators) {
            throw new IndexOutOfBoundsException("no such comparator");
        }
        switch (what) {
            case 0: return setup.offsets[comparator];
            case 1: return setup.amplitudes[comparator];
            case 2: return setup.countUsers(comparator);
            default: throw new IllegalArgumentException("no such number of a comparator");
        }
    }

    public int weight(int weight, int what) throws IndexOutOfBoundsException, IllegalArgumentException {
        requireWeight(weight);
        Setup setup = state.setup;
        switch (what) {
            case 0: return setup.told[weight];
            case 1: return setup.actual[weight];
            case 2: return setup.users[weight];
            case 3: return state.table[weight];
            case 4: return setup.redundancy(weight);
            case 5: return setup.isCalibratable(weight) ? 1 : 0;
            default: throw new IllegalArgumentException("no such number of a weight");
        }
    }

    // ---- the table

    public int setTable(int weight, int to) throws IndexOutOfBoundsException, IllegalArgumentException {
        requireWeight(weight);
        requireArgument(to, 0, MAX_NUMBER);
        beginChange();
        int previous = state.table[weight];
        state.table[weight] = to;
        return previous;
    }

    public int resetTable() {
        int others = state.countOtherNumbers(state.setup.told);
        beginChange();
        state.tableAsTold();
        return others;
    }

    public int calibrate(int weight, int conversions)
            throws IndexOutOfBoundsException, IllegalArgumentException, IllegalStateException {
        requireWeight(weight);
        requireArgument(conversions, 1, MAX_CONVERSIONS);
        if (!state.setup.isCalibratable(weight)) {
            throw new IllegalStateException("the weights behind it are too small");
        }
        beginChange();
        state.measure(weight, conversions);
        return state.table[weight];
    }

    public int calibrateAll(int conversions) throws IllegalArgumentException {
        requireArgument(conversions, 1, MAX_CONVERSIONS);
        beginChange();
        int[] before = state.table.clone();
        for (int k = state.setup.weights - 1; k >= 0; k--) {
            if (state.setup.isCalibratable(k)) {
                state.measure(k, conversions);
            }
        }
        return state.countOtherNumbers(before);
    }

    // ---- conversions

    public int setNoise(int to) throws IllegalArgumentException {
        requireArgument(to, 0, MAX_NOISE);
        beginChange();
        int previous = state.noise;
        state.noise = to;
        return previous;
    }

    public int convert(int input) throws IllegalArgumentException {
        requireArgument(input, 0, MAX_INPUT);
        beginChange();
        return state.convertAndKeep(input);
    }

    public float average(int input, int conversions) throws IllegalArgumentException {
        requireArgument(input, 0, MAX_INPUT);
        requireArgument(conversions, 1, MAX_CONVERSIONS);
        beginChange();
        int sum = 0;
        for (int n = 0; n < conversions; n++) {
            sum += state.convertAndKeep(input);
        }
        return (float) sum / (float) conversions;
    }

    public int quiet(int input) throws IllegalArgumentException {
        requireArgument(input, 0, MAX_INPUT);
        return state.quietCode(input, NONE, 0);
    }

    public int spread(int input, int conversions) throws IllegalArgumentException {
        requireArgument(input, 0, MAX_INPUT);
        requireArgument(conversions, 1, MAX_CONVERSIONS);
        int noiseBefore = state.noise;
        int least = MAX_CODE;
        int greatest = 0;
        for (int n = 0; n < conversions; n++) {
            int code = state.codeOf(state.noisyBits(input, 0));
            least = Math.min(least, code);
            greatest = Math.max(greatest, code);
        }
        state.noise = noiseBefore;
        return greatest - least;
    }

    public int conversion(int back, int what) throws IndexOutOfBoundsException, IllegalArgumentException {
        int row = rowOfConversion(back);
        Kept kept = state.kept;
        switch (what) {
            case 0: return kept.inputs[row];
            case 1: return kept.codes[row];
            case 2: return kept.bits[row];
            case 3: return state.setup.levelBefore(MAX_WEIGHTS, kept.bits[row]);
            case 4: return state.codeOf(kept.bits[row]);
            default: throw new IllegalArgumentException("no such number of a conversion");
        }
    }

    public int trial(int back, int weight, int what) throws IndexOutOfBoundsException, IllegalArgumentException {
        int row = rowOfConversion(back);
        requireWeight(weight);
        int bits = state.kept.bits[row];
        switch (what) {
            case 0: return state.setup.threshold(weight, bits);
            case 1: return state.kept.noiseOf(row, weight);
            case 2: return (bits >> weight) & 1;
            default: throw new IllegalArgumentException("no such number of a trial");
        }
    }

    public int decidedWrong() {
        int wrong = 0;
        for (int back = 0; back < state.kept.size; back++) {
            int row = state.kept.rowOf(back);
            wrong += state.setup.countWrongBits(state.kept.inputs[row], state.kept.bits[row]);
        }
        return wrong;
    }

    // ---- codes seen

    public int seen(int code) {
        return state.seenCodes.timesOf(code);
    }

    public int seenAt(int place) throws IndexOutOfBoundsException {
        if (place < 0 || place >= state.seenCodes.size) {
            throw new IndexOutOfBoundsException("not so many codes were seen");
        }
        return state.seenCodes.codes[place];
    }

    public int mostSeen() throws NoSuchElementException {
        if (state.seenCodes.size == 0) {
            throw new NoSuchElementException("no code was seen");
        }
        return state.seenCodes.mostOften();
    }

    public int forget(int times) throws IllegalArgumentException {
        requireArgument(times, 1, MAX_TIMES);
        beginChange();
        return state.seenCodes.dropBelow(times);
    }

    // ---- ramps

    public int codes() {
        return freshRamp().different;
    }

    public int missing() {
        return freshRamp().countMissing();
    }

    public int missingAt(int place) throws NoSuchElementException {
        Ramp fresh = freshRamp();
        if (place < 0 || place >= fresh.countMissing()) {
            throw new NoSuchElementException("not so many codes are missing");
        }
        return fresh.missingCode(place);
    }

    public int width(int code) {
        return freshRamp().widthOf(code);
    }

    public int widest() {
        return freshRamp().widestCode();
    }

    public int stepsBack() {
        return freshRamp().countStepsBack();
    }

    public int worstInput() {
        return freshRamp().inputOfWorstError();
    }

    public double meanError() {
        Ramp fresh = freshRamp();
        return (double) fresh.sumOfErrors() / (double) (fresh.range + 1);
    }

    public int absorbs(int weight, boolean less) throws IndexOutOfBoundsException {
        requireWeight(weight);
        Ramp fresh = freshRamp();
        int worst = fresh.errorAt(fresh.inputOfWorstError());
        int absorbed = MAX_SHIFT;
        for (int x = 0; x <= fresh.range; x++) {
            // A shift that grows turns this trial once at most, so only the shift at which it turns must be tried.
            int turn = state.setup.shiftThatTurns(x, weight, less);
            if (turn >= 1 && turn <= absorbed) {
                int error = state.quietCode(x, weight, less ? -turn : turn) - x;
                absorbed = Math.abs(error) > worst ? turn - 1 : absorbed;
            }
        }
        return absorbed;
    }

    public int inputFor(int code) throws NoSuchElementException {
        Ramp fresh = freshRamp();
        if (code > fresh.greatest) {
            throw new NoSuchElementException("no input has such a code");
        }
        return fresh.firstInputOf(code);
    }

    public int risingFrom() {
        return freshRamp().lastStepBack();
    }

    private Ramp freshRamp() {
        if (!rampIsFresh) {
            ramp.run(state);
            rampIsFresh = true;
        }
        return ramp;
    }

    // ---- texts, undo and slots

    public int writeConversion(int back) throws IndexOutOfBoundsException {
        int row = rowOfConversion(back);
        int bits = state.kept.bits[row];
        written.setLength(0);
        for (int k = 0; k < state.setup.weights; k++) {
            written.append((bits >> k & 1) == 1 ? '1' : '0');
        }
        written.append('=');
        written.append(state.kept.codes[row]);
        return written.length();
    }

    public int writtenByte(int index) throws IndexOutOfBoundsException {
        if (index < 0 || index >= written.length()) {
            throw new IndexOutOfBoundsException("no such byte was written");
        }
        return written.charAt(index);
    }

    public int undo() throws IllegalStateException {
        if (history.size == 0) {
            throw new IllegalStateException("there is no change to undo");
        }
        history.bringBack(state);
        rampIsFresh = false;
        return history.size;
    }

    public int save(int slot) throws IndexOutOfBoundsException {
        slotOf(slot).keep(state);
        return state.tableSum();
    }

    public int restore(int slot) throws IndexOutOfBoundsException, IllegalStateException {
        Slot kept = slotOf(slot);
        // An empty slot holds 0 weights, and no converter has 0.
        if (kept.weights != state.setup.weights) {
            throw new IllegalStateException("no table for so many weights was saved there");
        }
        beginChange();
        kept.giveTo(state);
        return state.tableSum();
    }

    private Slot slotOf(int slot) {
        if (slot < 0 || slot > 1) {
            throw new IndexOutOfBoundsException("no such slot");
        }
        return slot == 0 ? firstSlot : secondSlot;
    }

    // ---- what several calls need

    /** Must stand ahead of everything that a change does, and behind all its exceptions. */
    private void beginChange() {
        history.remember(state);
        rampIsFresh = false;
    }

    private int rowOfConversion(int back) {
        if (back < 0 || back >= state.kept.size) {
            throw new IndexOutOfBoundsException("no such conversion is kept");
        }
        return state.kept.rowOf(back);
    }

    private void requireWeight(int weight) {
        if (weight < 0 || weight >= state.setup.weights) {
            throw new IndexOutOfBoundsException("no such weight");
        }
    }

    private static void requireArgument(int value, int least, int greatest) {
        if (value < least || value > greatest) {
            throw new IllegalArgumentException("an argument is out of its range");
        }
    }

    /** The comparators and weights of a text. It never changes once it is read, so that states can share it. */
    private static final class Setup {
        int comparators = 0;
        final int[] offsets = new int[MAX_COMPARATORS];
        final int[] amplitudes = new int[MAX_COMPARATORS];
        int weights = 0;
        final int[] told = new int[MAX_WEIGHTS];
        final int[] actual = new int[MAX_WEIGHTS];
        final int[] users = new int[MAX_WEIGHTS];
        int seed = 0;

        void addComparator(int offset, int amplitude) {
            if (comparators < MAX_COMPARATORS) {
                offsets[comparators] = offset;
                amplitudes[comparators] = amplitude;
                comparators++;
            }
        }

        void addWeight(int toldWeight, int actualWeight, int comparator) {
            if (weights < MAX_WEIGHTS) {
                told[weights] = toldWeight;
                actual[weights] = actualWeight;
                users[weights] = comparator;
                weights++;
            }
        }

        int countUsers(int comparator) {
            int found = 0;
            for (int k = 0; k < weights; k++) {
                found += users[k] == comparator ? 1 : 0;
            }
            return found;
        }

        int offsetOf(int weight) {
            int comparator = users[weight];
            return comparator >= 0 && comparator < MAX_COMPARATORS ? offsets[comparator] : 0;
        }

        int amplitudeOf(int weight) {
            int comparator = users[weight];
            return comparator >= 0 && comparator < MAX_COMPARATORS ? amplitudes[comparator] : 0;
        }

        int sumBehind(int weight) {
            int sum = 0;
            for (int k = weight + 1; k < weights; k++) {
                sum += actual[k];
            }
            return sum;
        }

        int redundancy(int weight) {
            return sumBehind(weight) - actual[weight];
        }

        boolean isCalibratable(int weight) {
            return redundancy(weight) >= 0;
        }

        int countCalibratable() {
            int possible = 0;
            for (int k = 0; k < weights; k++) {
                possible += isCalibratable(k) ? 1 : 0;
            }
            return possible;
        }

        int levelBefore(int weight, int bits) {
            int level = 0;
            for (int k = 0; k < weights && k < weight; k++) {
                level += (bits >> k & 1) == 1 ? actual[k] : 0;
            }
            return level;
        }

        int threshold(int weight, int bits) {
            return levelBefore(weight, bits) + actual[weight];
        }

        int countWrongBits(int input, int bits) {
            int wrong = 0;
            for (int k = 0; k < weights; k++) {
                int right = input >= threshold(k, bits) ? 1 : 0;
                wrong += (bits >> k & 1) == right ? 0 : 1;
            }
            return wrong;
        }

        /** The bits without noise; the trial of one weight (NONE for no one) has its offset shifted. */
        int quietBits(int input, int shifted, int shift) {
            int level = 0;
            int bits = 0;
            for (int k = 0; k < weights; k++) {
                int threshold = level + actual[k];
                int seenInput = input + offsetOf(k) + (k == shifted ? shift : 0);
                if (seenInput >= threshold) {
                    level = threshold;
                    bits |= 1 << k;
                }
            }
            return bits;
        }

        /** The least shift with which the bit of a weight is another one; below 1 if there is none. */
        int shiftThatTurns(int input, int weight, boolean less) {
            int bits = quietBits(input, NONE, 0);
            int lacking = threshold(weight, bits) - input - offsetOf(weight);
            return less ? 1 - lacking : lacking;
        }
    }

    /** All that undo brings back. */
    private static final class State {
        Setup setup;
        final int[] table = new int[MAX_WEIGHTS];
        int noise;
        final Kept kept = new Kept();
        final Seen seenCodes = new Seen();
        private final int[] drawn = new int[MAX_WEIGHTS];

        State(Setup first) {
            begin(first);
        }

        void begin(Setup other) {
            setup = other;
            noise = other.seed;
            tableAsTold();
            kept.size = 0;
            seenCodes.size = 0;
        }

        void copyFrom(State other) {
            setup = other.setup;
            noise = other.noise;
            System.arraycopy(other.table, 0, table, 0, MAX_WEIGHTS);
            kept.copyFrom(other.kept);
            seenCodes.copyFrom(other.seenCodes);
        }

        void tableAsTold() {
            System.arraycopy(setup.told, 0, table, 0, MAX_WEIGHTS);
        }

        int tableSum() {
            return codeOf(ALL_BITS);
        }

        int countOtherNumbers(int[] numbers) {
            int others = 0;
            for (int k = 0; k < setup.weights && k < numbers.length; k++) {
                others += table[k] == numbers[k] ? 0 : 1;
            }
            return others;
        }

        int codeOf(int bits) {
            int code = 0;
            for (int k = 0; k < setup.weights; k++) {
                code += (bits >> k & 1) == 1 ? table[k] : 0;
            }
            return code;
        }

        int quietCode(int input, int shifted, int shift) {
            return codeOf(setup.quietBits(input, shifted, shift));
        }

        int drawNoise(int amplitude) {
            if (amplitude <= 0) {
                return 0;
            }
            noise = (noise * 20077 + 12345) % (MAX_NOISE + 1);
            return noise / 16 % (2 * amplitude + 1) - amplitude;
        }

        /** The bits of a conversion with the weights from one on; its noises stand in the drawn ones then. */
        int noisyBits(int input, int from) {
            int level = 0;
            int bits = 0;
            for (int k = from; k < setup.weights; k++) {
                int threshold = level + setup.actual[k];
                drawn[k] = drawNoise(setup.amplitudeOf(k));
                if (input + setup.offsetOf(k) + drawn[k] >= threshold) {
                    level = threshold;
                    bits |= 1 << k;
                }
            }
            return bits;
        }

        int convertAndKeep(int input) {
            int bits = noisyBits(input, 0);
            int code = codeOf(bits);
            kept.add(input, code, bits, drawn);
            seenCodes.add(code);
            return code;
        }

        int sumOfCodes(int input, int from, int conversions) {
            int sum = 0;
            for (int n = 0; n < conversions; n++) {
                sum += codeOf(noisyBits(input, from));
            }
            return sum;
        }

        void measure(int weight, int conversions) {
            if (conversions < 1) {
                return;
            }
            int withIt = sumOfCodes(setup.actual[weight], weight + 1, conversions);
            int without = sumOfCodes(0, weight + 1, conversions);
            int number = Math.floorDiv(2 * (withIt - without) + conversions, 2 * conversions);
            table[weight] = Math.max(0, Math.min(MAX_NUMBER, number));
        }
    }

    /** The latest conversions, in a ring. Thresholds and levels follow from the bits, so they are not held. */
    private static final class Kept {
        final int[] inputs = new int[MAX_KEPT];
        final int[] codes = new int[MAX_KEPT];
        final int[] bits = new int[MAX_KEPT];
        private final int[] noises = new int[MAX_KEPT * MAX_WEIGHTS];
        int size = 0;
        private int next = 0;

        void add(int input, int code, int itsBits, int[] drawn) {
            if (next < 0 || next >= MAX_KEPT || drawn.length < MAX_WEIGHTS) {
                return;
            }
            inputs[next] = input;
            codes[next] = code;
            bits[next] = itsBits;
            System.arraycopy(drawn, 0, noises, next * MAX_WEIGHTS, MAX_WEIGHTS);
            next = (next + 1) % MAX_KEPT;
            size = Math.min(size + 1, MAX_KEPT);
        }

        int rowOf(int back) {
            return Math.floorMod(next - 1 - back, MAX_KEPT);
        }

        int noiseOf(int row, int weight) {
            int place = row * MAX_WEIGHTS + weight;
            return place >= 0 && place < noises.length ? noises[place] : 0;
        }

        void copyFrom(Kept other) {
            System.arraycopy(other.inputs, 0, inputs, 0, MAX_KEPT);
            System.arraycopy(other.codes, 0, codes, 0, MAX_KEPT);
            System.arraycopy(other.bits, 0, bits, 0, MAX_KEPT);
            System.arraycopy(other.noises, 0, noises, 0, MAX_KEPT * MAX_WEIGHTS);
            size = other.size;
            next = other.next;
        }
    }

    /** The codes seen in their order. The rows grow, for few runs see many codes and nine states hold them. */
    private static final class Seen {
        int[] codes = new int[16];
        private int[] times = new int[16];
        int size = 0;

        private int placeOf(int code) {
            for (int place = 0; place < size; place++) {
                if (codes[place] == code) {
                    return place;
                }
            }
            return NONE;
        }

        int timesOf(int code) {
            int place = placeOf(code);
            return place >= 0 ? times[place] : 0;
        }

        void add(int code) {
            int place = placeOf(code);
            if (place >= 0) {
                times[place]++;
                return;
            }
            makeRoomFor(size + 1);
            codes[size] = code;
            times[size] = 1;
            size++;
        }

        private void makeRoomFor(int places) {
            if (places > codes.length) {
                int room = Math.max(places, 2 * codes.length);
                codes = Arrays.copyOf(codes, room);
                times = Arrays.copyOf(times, room);
            }
        }

        int timesTogether() {
            int sum = 0;
            for (int place = 0; place < size; place++) {
                sum += times[place];
            }
            return sum;
        }

        int mostOften() {
            int best = 0;
            for (int place = 1; place < size; place++) {
                best = times[place] > times[best] ? place : best;
            }
            return codes[best];
        }

        int dropBelow(int least) {
            int stay = 0;
            for (int place = 0; place < size; place++) {
                if (times[place] >= least) {
                    codes[stay] = codes[place];
                    times[stay] = times[place];
                    stay++;
                }
            }
            int dropped = size - stay;
            size = stay;
            return dropped;
        }

        void copyFrom(Seen other) {
            makeRoomFor(other.size);
            System.arraycopy(other.codes, 0, codes, 0, other.size);
            System.arraycopy(other.times, 0, times, 0, other.size);
            size = other.size;
        }
    }

    /** The states before the latest changes, in a ring whose states are used again. */
    private static final class History {
        private final State[] ring = new State[MAX_UNDO];
        private int next = 0;
        int size = 0;

        History(Setup first) {
            for (int n = 0; n < MAX_UNDO; n++) {
                ring[n] = new State(first);
            }
        }

        void remember(State state) {
            ring[next].copyFrom(state);
            next = (next + 1) % MAX_UNDO;
            size = Math.min(size + 1, MAX_UNDO);
        }

        void bringBack(State state) {
            if (size > 0) {
                next = Math.floorMod(next - 1, MAX_UNDO);
                size--;
                state.copyFrom(ring[next]);
            }
        }
    }

    /** The codes of the quiet conversions of all inputs from 0 to the range. */
    private static final class Ramp {
        private final int[] codeAt = new int[MAX_RANGE + 1];
        private final int[] widths = new int[MAX_CODE + 1];
        int range = 0;
        int least = 0;
        int greatest = 0;
        int different = 0;

        void run(State state) {
            range = Math.min(state.setup.sumBehind(NONE), MAX_RANGE);
            Arrays.fill(widths, 0);
            least = MAX_CODE;
            greatest = 0;
            different = 0;
            for (int x = 0; x <= range; x++) {
                codeAt[x] = state.quietCode(x, NONE, 0);
                addInput(codeAt[x]);
            }
        }

        private void addInput(int code) {
            if (code >= 0 && code < widths.length) {
                different += widths[code] == 0 ? 1 : 0;
                widths[code]++;
                least = Math.min(least, code);
                greatest = Math.max(greatest, code);
            }
        }

        int countMissing() {
            return greatest - least + 1 - different;
        }

        int missingCode(int place) {
            int ahead = 0;
            for (int code = least; code <= greatest; code++) {
                if (widthOf(code) == 0) {
                    if (ahead == place) {
                        return code;
                    }
                    ahead++;
                }
            }
            return NONE;
        }

        int widthOf(int code) {
            return code >= 0 && code < widths.length ? widths[code] : 0;
        }

        int widestCode() {
            int best = least;
            for (int code = least; code <= greatest; code++) {
                best = widthOf(code) > widthOf(best) ? code : best;
            }
            return best;
        }

        int countStepsBack() {
            int steps = 0;
            for (int x = 1; x <= range; x++) {
                steps += codeAt[x] < codeAt[x - 1] ? 1 : 0;
            }
            return steps;
        }

        int lastStepBack() {
            for (int x = range; x >= 1; x--) {
                if (codeAt[x] < codeAt[x - 1]) {
                    return x;
                }
            }
            return 0;
        }

        int errorAt(int input) {
            return input >= 0 && input <= range ? Math.abs(codeAt[input] - input) : 0;
        }

        int inputOfWorstError() {
            int worst = 0;
            for (int x = 1; x <= range; x++) {
                worst = errorAt(x) > errorAt(worst) ? x : worst;
            }
            return worst;
        }

        int sumOfErrors() {
            int sum = 0;
            for (int x = 0; x <= range; x++) {
                sum += errorAt(x);
            }
            return sum;
        }

        int firstInputOf(int code) {
            for (int x = 0; x <= range; x++) {
                if (codeAt[x] >= code) {
                    return x;
                }
            }
            return NONE;
        }
    }

    /** A table and a noise state that were saved; without weights as long as nothing was. */
    private static final class Slot {
        int weights = 0;
        private final int[] table = new int[MAX_WEIGHTS];
        private int noise = 0;

        void keep(State state) {
            weights = state.setup.weights;
            System.arraycopy(state.table, 0, table, 0, MAX_WEIGHTS);
            noise = state.noise;
        }

        void giveTo(State state) {
            System.arraycopy(table, 0, state.table, 0, MAX_WEIGHTS);
            state.noise = noise;
        }
    }

    /** Reads a converter from a text. Its methods that answer false have told the error. */
    private static final class Reader {
        private static final int END = -1;
        private static final int TOO_LARGE = 1000000;

        private final int[] text;
        private final int length;
        private int at = 0;
        private int number = 0;
        final Setup setup = new Setup();
        int error = 0;
        int errorAt = NONE;

        Reader(int[] text, int length) {
            this.text = text;
            this.length = Math.min(length, text.length);
        }

        boolean readText() {
            return readComparators() && readWeights() && readSeed() && readEnd();
        }

        private boolean readComparators() {
            for (int n = 0; n < MAX_COMPARATORS; n++) {
                if (!isAtWord("comparator")) {
                    return n > 0 || fail(SYNTAX_ERROR, at);
                }
                if (!readOneComparator()) {
                    return false;
                }
            }
            return !isAtWord("comparator") || fail(TOO_MANY, at);
        }

        private boolean readOneComparator() {
            at += "comparator".length();
            boolean minus = isAt('-');
            at += minus ? 1 : 0;
            if (!readNumber(0, MAX_OFFSET)) {
                return false;
            }
            int offset = minus ? -number : number;
            if (!readNumber(0, MAX_AMPLITUDE)) {
                return false;
            }
            setup.addComparator(offset, number);
            return readSemicolon();
        }

        private boolean readWeights() {
            for (int n = 0; n < MAX_WEIGHTS; n++) {
                if (!isAtWord("weight")) {
                    return n > 0 || fail(SYNTAX_ERROR, at);
                }
                if (!readOneWeight()) {
                    return false;
                }
            }
            return !isAtWord("weight") || fail(TOO_MANY, at);
        }

        private boolean readOneWeight() {
            at += "weight".length();
            if (!readNumber(1, MAX_WEIGHT)) {
                return false;
            }
            int told = number;
            if (!readNumber(1, MAX_WEIGHT)) {
                return false;
            }
            int actual = number;
            if (!readNumber(0, setup.comparators - 1)) {
                return false;
            }
            setup.addWeight(told, actual, number);
            return readSemicolon();
        }

        private boolean readSeed() {
            if (!isAtWord("seed")) {
                return true;
            }
            at += "seed".length();
            if (!readNumber(0, MAX_NOISE)) {
                return false;
            }
            setup.seed = number;
            return readSemicolon();
        }

        private boolean readEnd() {
            return isAt(END) || fail(SYNTAX_ERROR, at);
        }

        private boolean readSemicolon() {
            skipSpaces();
            if (byteAt(at) != ';') {
                return fail(SYNTAX_ERROR, at);
            }
            at++;
            return true;
        }

        private boolean readNumber(int least, int greatest) {
            skipSpaces();
            int start = at;
            number = 0;
            while (at < length && isDigit(byteAt(at))) {
                // Numbers may be as long as the text: too large ones only have to stay too large.
                number = Math.min(number * 10 + byteAt(at) - '0', TOO_LARGE);
                at++;
            }
            if (at == start) {
                return fail(SYNTAX_ERROR, start);
            }
            return (number >= least && number <= greatest) || fail(VALUE_ERROR, start);
        }

        private boolean isAt(int token) {
            skipSpaces();
            return byteAt(at) == token;
        }

        private boolean isAtWord(String word) {
            skipSpaces();
            for (int n = 0; n < word.length(); n++) {
                if (byteAt(at + n) != word.charAt(n)) {
                    return false;
                }
            }
            return !isLetter(byteAt(at + word.length()));
        }

        private void skipSpaces() {
            while (at < length && byteAt(at) == ' ') {
                at++;
            }
        }

        private int byteAt(int place) {
            return place >= 0 && place < length ? text[place] : END;
        }

        private static boolean isDigit(int sign) {
            return sign >= '0' && sign <= '9';
        }

        private static boolean isLetter(int sign) {
            return sign >= 'a' && sign <= 'z';
        }

        private boolean fail(int code, int place) {
            error = code;
            errorAt = place;
            return false;
        }
    }
}
