import java.util.ArrayList;
import java.util.Arrays;
import java.util.HashMap;
import java.util.LinkedHashMap;
import java.util.List;
import java.util.Map;
import java.util.NoSuchElementException;
import java.util.TreeSet;
import java.util.regex.Matcher;
import java.util.regex.Pattern;

/** The document once more, slowly and in other ways than the class: whole copies, collections and no short cuts. */
final class Model {
    static final class Conversion {
        int input;
        int code;
        final List<int[]> trials = new ArrayList<>();

        int bits() {
            int bits = 0;
            for (int k = 0; k < trials.size(); k++) {
                bits += trials.get(k)[2] << k;
            }
            return bits;
        }

        int level() {
            int level = 0;
            for (int[] trial : trials) {
                level = trial[2] == 1 ? trial[0] : level;
            }
            return level;
        }
    }

    static final class Parts {
        final List<int[]> comparators = new ArrayList<>();
        final List<int[]> weights = new ArrayList<>();
        int seed = 0;
    }

    static final class Whole {
        Parts parts;
        int[] table;
        int noise;
        List<Conversion> kept = new ArrayList<>();
        LinkedHashMap<Integer, Integer> seen = new LinkedHashMap<>();

        Whole copy() {
            Whole other = new Whole();
            other.parts = parts;
            other.table = table.clone();
            other.noise = noise;
            other.kept = new ArrayList<>(kept);
            other.seen = new LinkedHashMap<>(seen);
            return other;
        }
    }

    static final class Fault extends RuntimeException {
        private static final long serialVersionUID = 1L;
        final int code;
        final int position;

        Fault(int code, int position) {
            this.code = code;
            this.position = position;
        }
    }

    private final StringBuilder buffer = new StringBuilder();
    private int errorAt = -1;
    private Whole now;
    private final List<Whole> before = new ArrayList<>();
    private String written = "";
    private final Map<Integer, Whole> slots = new HashMap<>();

    Model() {
        now = begin(new ModelReader("comparator 0 0; weight 1 1 0;").read());
    }

    private static Whole begin(Parts parts) {
        Whole whole = new Whole();
        whole.parts = parts;
        whole.noise = parts.seed;
        whole.table = parts.weights.stream().mapToInt(w -> w[0]).toArray();
        return whole;
    }

    static final class ModelReader {
        private final List<String> tokens = new ArrayList<>();
        private final List<Integer> places = new ArrayList<>();
        private int at = 0;

        ModelReader(String text) {
            Matcher match = Pattern.compile("[a-z]+|[0-9]+|[^ ]", Pattern.DOTALL).matcher(text);
            while (match.find()) {
                tokens.add(match.group());
                places.add(match.start());
            }
            tokens.add("end of text");
            places.add(text.length());
        }

        Parts read() {
            Parts parts = new Parts();
            do {
                expect("comparator", parts.comparators.size() == 3);
                int sign = tokens.get(at).equals("-") ? -1 : 1;
                at += sign == -1 ? 1 : 0;
                int offset = sign * number(0, 50);
                parts.comparators.add(new int[] {offset, number(0, 30)});
                expect(";", false);
            } while (tokens.get(at).equals("comparator"));
            do {
                expect("weight", parts.weights.size() == 10);
                parts.weights.add(new int[] {number(1, 512), number(1, 512),
                    number(0, parts.comparators.size() - 1)});
                expect(";", false);
            } while (tokens.get(at).equals("weight"));
            if (tokens.get(at).equals("seed")) {
                at++;
                parts.seed = number(0, 65535);
                expect(";", false);
            }
            expect("end of text", false);
            return parts;
        }

        private void expect(String token, boolean full) {
            if (!tokens.get(at).equals(token)) {
                throw new Fault(-2, places.get(at));
            }
            if (full) {
                throw new Fault(-4, places.get(at));
            }
            at++;
        }

        private int number(int least, int most) {
            String token = tokens.get(at);
            if (!token.matches("[0-9]+")) {
                throw new Fault(-2, places.get(at));
            }
            java.math.BigInteger value = new java.math.BigInteger(token);
            if (value.compareTo(java.math.BigInteger.valueOf(least)) < 0
                    || value.compareTo(java.math.BigInteger.valueOf(most)) > 0) {
                throw new Fault(-3, places.get(at));
            }
            at++;
            return value.intValue();
        }
    }

    private int weights() {
        return now.parts.weights.size();
    }

    private int actual(int weight) {
        return now.parts.weights.get(weight)[1];
    }

    private int range() {
        return now.parts.weights.stream().mapToInt(w -> w[1]).sum();
    }

    private int redundancy(int weight) {
        int behind = 0;
        for (int k = weight + 1; k < weights(); k++) {
            behind += actual(k);
        }
        return behind - actual(weight);
    }

    private boolean possible(int weight) {
        return weight < weights() - 1 && redundancy(weight) >= 0;
    }

    private void change() {
        before.add(now.copy());
        if (before.size() > 8) {
            before.remove(0);
        }
    }

    private int draw(int amplitude) {
        if (amplitude == 0) {
            return 0;
        }
        now.noise = (int) ((now.noise * 20077L + 12345L) % 65536L);
        return (now.noise / 16) % (2 * amplitude + 1) - amplitude;
    }

    private Conversion run(int input, int from, boolean noisy, int shifted, int shift) {
        Conversion made = new Conversion();
        made.input = input;
        int level = 0;
        for (int k = from; k < weights(); k++) {
            int[] comparator = now.parts.comparators.get(now.parts.weights.get(k)[2]);
            int threshold = level + actual(k);
            int noise = noisy ? draw(comparator[1]) : 0;
            int offset = comparator[0] + (k == shifted ? shift : 0);
            int bit = input + offset + noise >= threshold ? 1 : 0;
            level = bit == 1 ? threshold : level;
            made.trials.add(new int[] {threshold, noise, bit});
            made.code += bit * now.table[k];
        }
        return made;
    }

    private int convertOne(int input) {
        Conversion made = run(input, 0, true, -1, 0);
        now.kept.add(0, made);
        if (now.kept.size() > 20) {
            now.kept.remove(20);
        }
        now.seen.merge(made.code, 1, Integer::sum);
        return made.code;
    }

    private void calibrateOne(int weight, int n) {
        int d = 0;
        for (int i = 0; i < n; i++) {
            d += run(actual(weight), weight + 1, true, -1, 0).code;
        }
        for (int i = 0; i < n; i++) {
            d -= run(0, weight + 1, true, -1, 0).code;
        }
        now.table[weight] = (int) Math.max(0, Math.min(1023, Math.floor((2.0 * d + n) / (2.0 * n))));
    }

    private int[] ramp(int shifted, int shift) {
        int[] row = new int[range() + 1];
        for (int x = 0; x < row.length; x++) {
            row[x] = run(x, 0, false, shifted, shift).code;
        }
        return row;
    }

    private static int worst(int[] row) {
        int worst = 0;
        for (int x = 0; x < row.length; x++) {
            worst = Math.max(worst, Math.abs(row[x] - x));
        }
        return worst;
    }

    private TreeSet<Integer> rampCodes() {
        TreeSet<Integer> codes = new TreeSet<>();
        for (int code : ramp(-1, 0)) {
            codes.add(code);
        }
        return codes;
    }

    private List<Integer> missingCodes() {
        TreeSet<Integer> codes = rampCodes();
        List<Integer> missing = new ArrayList<>();
        for (int code = codes.first(); code < codes.last(); code++) {
            if (!codes.contains(code)) {
                missing.add(code);
            }
        }
        return missing;
    }

    private static void index(boolean good) {
        if (!good) {
            throw new IndexOutOfBoundsException();
        }
    }

    private static void argument(boolean good) {
        if (!good) {
            throw new IllegalArgumentException();
        }
    }

    private static void state(boolean good) {
        if (!good) {
            throw new IllegalStateException();
        }
    }

    private static void element(boolean good) {
        if (!good) {
            throw new NoSuchElementException();
        }
    }

    private void weightExists(int weight) {
        index(weight >= 0 && weight < weights());
    }

    int append(int a, int b, int c, int d, int e) {
        state(buffer.length() + 20 <= 400);
        for (int word : new int[] {a, b, c, d, e}) {
            for (byte one : java.nio.ByteBuffer.allocate(4).putInt(word).array()) {
                buffer.append((char) (one & 255));
            }
        }
        return buffer.length();
    }

    int load(int length) {
        argument(length >= 0 && length <= buffer.length());
        String text = buffer.substring(0, length);
        buffer.setLength(0);
        try {
            Parts parts = new ModelReader(text).read();
            errorAt = -1;
            change();
            now = begin(parts);
            return weights();
        } catch (Fault fault) {
            errorAt = fault.position;
            return fault.code;
        }
    }

    int errorPosition() {
        return errorAt;
    }

    int count(int what) {
        argument(what >= 0 && what <= 8);
        int able = 0;
        for (int k = 0; k < weights(); k++) {
            able += possible(k) ? 1 : 0;
        }
        int times = now.seen.values().stream().mapToInt(t -> t).sum();
        return new int[] {now.parts.comparators.size(), weights(), range(), now.noise, now.kept.size(),
            now.seen.size(), times, Arrays.stream(now.table).sum(), able}[what];
    }

    int comparator(int comparator, int what) {
        index(comparator >= 0 && comparator < now.parts.comparators.size());
        argument(what >= 0 && what <= 2);
        int users = (int) now.parts.weights.stream().filter(w -> w[2] == comparator).count();
        return what == 2 ? users : now.parts.comparators.get(comparator)[what];
    }

    int weight(int weight, int what) {
        weightExists(weight);
        argument(what >= 0 && what <= 5);
        int[] one = now.parts.weights.get(weight);
        return new int[] {one[0], one[1], one[2], now.table[weight], redundancy(weight),
            possible(weight) ? 1 : 0}[what];
    }

    int setTable(int weight, int to) {
        weightExists(weight);
        argument(to >= 0 && to <= 1023);
        change();
        int previous = now.table[weight];
        now.table[weight] = to;
        return previous;
    }

    private int differences(int[] other) {
        int differences = 0;
        for (int k = 0; k < weights(); k++) {
            differences += now.table[k] != other[k] ? 1 : 0;
        }
        return differences;
    }

    int resetTable() {
        change();
        int[] old = now.table;
        now.table = begin(now.parts).table;
        return differences(old);
    }

    int calibrate(int weight, int conversions) {
        weightExists(weight);
        argument(conversions >= 1 && conversions <= 16);
        state(possible(weight));
        change();
        calibrateOne(weight, conversions);
        return now.table[weight];
    }

    int calibrateAll(int conversions) {
        argument(conversions >= 1 && conversions <= 16);
        change();
        int[] old = now.table.clone();
        for (int k = weights() - 1; k >= 0; k--) {
            if (possible(k)) {
                calibrateOne(k, conversions);
            }
        }
        return differences(old);
    }

    int setNoise(int to) {
        argument(to >= 0 && to <= 65535);
        change();
        int previous = now.noise;
        now.noise = to;
        return previous;
    }

    int convert(int input) {
        argument(input >= 0 && input <= 9999);
        change();
        return convertOne(input);
    }

    float average(int input, int conversions) {
        argument(input >= 0 && input <= 9999 && conversions >= 1 && conversions <= 16);
        change();
        float sum = 0;
        for (int n = 0; n < conversions; n++) {
            sum += convertOne(input);
        }
        return sum / conversions;
    }

    int quiet(int input) {
        argument(input >= 0 && input <= 9999);
        return run(input, 0, false, -1, 0).code;
    }

    int spread(int input, int conversions) {
        argument(input >= 0 && input <= 9999 && conversions >= 1 && conversions <= 16);
        int noise = now.noise;
        TreeSet<Integer> codes = new TreeSet<>();
        for (int n = 0; n < conversions; n++) {
            codes.add(run(input, 0, true, -1, 0).code);
        }
        now.noise = noise;
        return codes.last() - codes.first();
    }

    int conversion(int back, int what) {
        index(back >= 0 && back < now.kept.size());
        argument(what >= 0 && what <= 4);
        Conversion made = now.kept.get(back);
        int code = 0;
        for (int k = 0; k < weights(); k++) {
            code += made.trials.get(k)[2] * now.table[k];
        }
        return new int[] {made.input, made.code, made.bits(), made.level(), code}[what];
    }

    int trial(int back, int weight, int what) {
        index(back >= 0 && back < now.kept.size());
        weightExists(weight);
        argument(what >= 0 && what <= 2);
        return now.kept.get(back).trials.get(weight)[what];
    }

    int decidedWrong() {
        int wrong = 0;
        for (Conversion made : now.kept) {
            for (int[] trial : made.trials) {
                wrong += (made.input >= trial[0]) != (trial[2] == 1) ? 1 : 0;
            }
        }
        return wrong;
    }

    int seen(int code) {
        return now.seen.getOrDefault(code, 0);
    }

    int seenAt(int place) {
        index(place >= 0 && place < now.seen.size());
        return new ArrayList<>(now.seen.keySet()).get(place);
    }

    int mostSeen() {
        element(!now.seen.isEmpty());
        int most = now.seen.values().stream().mapToInt(t -> t).max().getAsInt();
        return now.seen.keySet().stream().filter(code -> now.seen.get(code) == most).findFirst().get();
    }

    int forget(int times) {
        argument(times >= 1 && times <= 1000);
        change();
        int size = now.seen.size();
        now.seen.values().removeIf(often -> often < times);
        return size - now.seen.size();
    }

    int codes() {
        return rampCodes().size();
    }

    int missing() {
        return missingCodes().size();
    }

    int missingAt(int place) {
        element(place >= 0 && place < missingCodes().size());
        return missingCodes().get(place);
    }

    int width(int code) {
        return (int) Arrays.stream(ramp(-1, 0)).filter(c -> c == code).count();
    }

    int widest() {
        int[] row = ramp(-1, 0);
        Arrays.sort(row);
        int best = row[0];
        int most = 0;
        for (int from = 0; from < row.length; ) {
            int to = from;
            while (to < row.length && row[to] == row[from]) {
                to++;
            }
            if (to - from > most) {
                most = to - from;
                best = row[from];
            }
            from = to;
        }
        return best;
    }

    private List<Integer> steps() {
        int[] row = ramp(-1, 0);
        List<Integer> steps = new ArrayList<>();
        for (int x = 1; x < row.length; x++) {
            if (row[x] < row[x - 1]) {
                steps.add(x);
            }
        }
        return steps;
    }

    int stepsBack() {
        return steps().size();
    }

    int worstInput() {
        int[] row = ramp(-1, 0);
        int x = 0;
        while (Math.abs(row[x] - x) != worst(row)) {
            x++;
        }
        return x;
    }

    double meanError() {
        int[] row = ramp(-1, 0);
        double sum = 0;
        for (int x = 0; x < row.length; x++) {
            sum += Math.abs(row[x] - x);
        }
        return sum / row.length;
    }

    int absorbs(int weight, boolean less) {
        weightExists(weight);
        int worst = worst(ramp(-1, 0));
        for (int e = 1; e <= 100; e++) {
            if (worst(ramp(weight, less ? -e : e)) > worst) {
                return e - 1;
            }
        }
        return 100;
    }

    int inputFor(int code) {
        int[] row = ramp(-1, 0);
        for (int x = 0; x < row.length; x++) {
            if (row[x] >= code) {
                return x;
            }
        }
        throw new NoSuchElementException();
    }

    int risingFrom() {
        List<Integer> steps = steps();
        int from = 0;
        while (!steps.isEmpty() && steps.get(steps.size() - 1) > from) {
            from++;
        }
        return from;
    }

    int writeConversion(int back) {
        index(back >= 0 && back < now.kept.size());
        Conversion made = now.kept.get(back);
        StringBuilder bits = new StringBuilder();
        made.trials.forEach(trial -> bits.append(trial[2]));
        written = bits + "=" + made.code;
        return written.length();
    }

    int writtenByte(int index) {
        index(index >= 0 && index < written.length());
        return written.charAt(index);
    }

    int undo() {
        state(!before.isEmpty());
        now = before.remove(before.size() - 1);
        return before.size();
    }

    int save(int slot) {
        index(slot == 0 || slot == 1);
        slots.put(slot, now.copy());
        return Arrays.stream(now.table).sum();
    }

    int restore(int slot) {
        index(slot == 0 || slot == 1);
        state(slots.containsKey(slot) && slots.get(slot).table.length == weights());
        change();
        now.table = slots.get(slot).table.clone();
        now.noise = slots.get(slot).noise;
        return Arrays.stream(now.table).sum();
    }
}
