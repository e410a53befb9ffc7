import java.util.Random;

/** Long runs of calls from seeds, each answer compared with the model's; wrong arguments are among them. */
public final class ModelTest {
    private static final int CALLS = 512;
    private static final int[] ODD = {Integer.MIN_VALUE, Integer.MAX_VALUE, -2, -1, 16, 17, 20, 400, 401, 1023, 1024,
        9999, 10000, 65535, 65536};

    private final Random random;
    private final TrialConverter x = new TrialConverter();
    private final Model model = new Model();
    private final int largest;
    private final StringBuilder run = new StringBuilder();
    private int made = 0;

    private ModelTest(long seed) {
        random = new Random(seed);
        largest = seed % 4 == 0 ? 512 : seed % 4 == 1 ? 100 : 20;
    }

    public static void main(String[] args) {
        int runs = args.length > 1 ? Integer.parseInt(args[1]) : 300;
        for (long seed = 0; seed < runs && Checks.wrong == 0; seed++) {
            ModelTest test = new ModelTest(seed);
            for (int n = 0; test.made < CALLS && Checks.wrong == 0; n++) {
                test.step(n);
            }
            if (Checks.wrong != 0) {
                System.out.println("seed " + seed + ":" + test.run);
            }
        }
        Checks.end();
    }

    private int pick(int bound) {
        return random.nextInt(bound);
    }

    private int odd(int least, int bound) {
        return pick(12) == 0 ? ODD[pick(ODD.length)] : least + pick(bound - least + 1);
    }

    private void both(String name, Checks.Call own, Checks.Call models) {
        // Nothing is promised behind the last call.
        if (made == CALLS) {
            return;
        }
        made++;
        run.append(' ').append(name);
        Checks.due(name, Checks.outcome(own), Checks.outcome(models));
    }

    private void step(int n) {
        int way = n == 0 ? 0 : pick(40);
        int w = odd(0, 9);
        int input = pick(4) == 0 ? odd(0, 9999) : odd(0, 12 * largest);
        int times = odd(1, pick(3) == 0 ? 16 : 4);
        if (way == 0) {
            loadSome();
        } else if (way <= 20) {
            changing(way, w, input, times);
        } else {
            asking(way, w, input, times);
        }
    }

    private void changing(int way, int w, int input, int times) {
        int to = odd(0, pick(2) == 0 ? 1023 : largest);
        int noise = odd(0, 65535);
        int slot = odd(0, 1);
        int least = odd(1, 6);
        if (way <= 2) {
            both("setTable " + w + " " + to, () -> x.setTable(w, to), () -> model.setTable(w, to));
        } else if (way == 3) {
            both("resetTable", x::resetTable, model::resetTable);
        } else if (way <= 5) {
            both("calibrate " + w + " " + times, () -> x.calibrate(w, times), () -> model.calibrate(w, times));
        } else if (way == 6) {
            both("calibrateAll " + times, () -> x.calibrateAll(times), () -> model.calibrateAll(times));
        } else if (way == 7) {
            both("setNoise " + noise, () -> x.setNoise(noise), () -> model.setNoise(noise));
        } else if (way <= 12) {
            both("convert " + input, () -> x.convert(input), () -> model.convert(input));
        } else if (way <= 14) {
            both("average " + input + " " + times, () -> x.average(input, times), () -> model.average(input, times));
        } else if (way == 15) {
            both("forget " + least, () -> x.forget(least), () -> model.forget(least));
        } else if (way <= 18) {
            both("undo", x::undo, model::undo);
        } else if (way == 19) {
            both("save " + slot, () -> x.save(slot), () -> model.save(slot));
        } else {
            both("restore " + slot, () -> x.restore(slot), () -> model.restore(slot));
        }
    }

    private void asking(int way, int w, int input, int times) {
        int back = odd(0, 21);
        int what = odd(0, 8);
        int code = odd(0, 10 * largest);
        boolean less = pick(2) == 0;
        switch (way) {
            case 21 -> both("count " + what, () -> x.count(what), () -> model.count(what));
            case 22 -> both("comparator " + w / 3 + " " + what / 2, () -> x.comparator(w / 3, what / 2),
                () -> model.comparator(w / 3, what / 2));
            case 23 -> both("weight " + w + " " + what, () -> x.weight(w, what), () -> model.weight(w, what));
            case 24 -> both("quiet " + input, () -> x.quiet(input), () -> model.quiet(input));
            case 25 -> both("spread " + input + " " + times, () -> x.spread(input, times),
                () -> model.spread(input, times));
            case 26 -> both("conversion " + back + " " + what, () -> x.conversion(back, what),
                () -> model.conversion(back, what));
            case 27 -> both("trial " + back + " " + w + " " + what / 2, () -> x.trial(back, w, what / 2),
                () -> model.trial(back, w, what / 2));
            case 28 -> both("decidedWrong", x::decidedWrong, model::decidedWrong);
            case 29 -> askSeen(code, back);
            case 30 -> askCodes(odd(0, 40));
            case 31 -> both("width " + code, () -> x.width(code), () -> model.width(code));
            case 32 -> both("widest", x::widest, model::widest);
            case 33 -> askSteps();
            case 34 -> askErrors();
            case 35 -> askAbsorbs(w, less);
            case 36 -> both("inputFor " + code, () -> x.inputFor(code), () -> model.inputFor(code));
            case 37 -> askWritten(back);
            case 38 -> askHeld();
            default -> appendSome();
        }
    }

    private void askSeen(int code, int place) {
        both("seen " + code, () -> x.seen(code), () -> model.seen(code));
        both("seenAt " + place, () -> x.seenAt(place), () -> model.seenAt(place));
        both("mostSeen", x::mostSeen, model::mostSeen);
    }

    private void askCodes(int place) {
        both("codes", x::codes, model::codes);
        both("missing", x::missing, model::missing);
        both("missingAt " + place, () -> x.missingAt(place), () -> model.missingAt(place));
    }

    private void askSteps() {
        both("stepsBack", x::stepsBack, model::stepsBack);
        both("risingFrom", x::risingFrom, model::risingFrom);
    }

    private void askErrors() {
        both("worstInput", x::worstInput, model::worstInput);
        both("meanError", x::meanError, model::meanError);
    }

    private void askAbsorbs(int w, boolean less) {
        // A long ramp is dear for the model, which looks at it a hundred times.
        if (model.count(2) < 400 || pick(4) == 0) {
            both("absorbs " + w + " " + less, () -> x.absorbs(w, less), () -> model.absorbs(w, less));
        }
    }

    private void askWritten(int back) {
        both("writeConversion " + back, () -> x.writeConversion(back), () -> model.writeConversion(back));
        for (int n = -1; n <= 16; n++) {
            int index = n;
            both("writtenByte " + n, () -> x.writtenByte(index), () -> model.writtenByte(index));
        }
    }

    private void askHeld() {
        for (int n = 0; n <= 8; n++) {
            int what = n;
            both("count " + n, () -> x.count(what), () -> model.count(what));
        }
        for (int n = 0; n < 20; n++) {
            int back = n;
            both("conversion " + n, () -> x.conversion(back, 4), () -> model.conversion(back, 4));
            both("seenAt " + n, () -> x.seenAt(back), () -> model.seenAt(back));
        }
    }

    private void appendSome() {
        int a = pick(2) == 0 ? random.nextInt() : Checks.four(";wei", 0);
        both("append " + a, () -> x.append(a, a, a, a, a), () -> model.append(a, a, a, a, a));
        if (pick(2) == 0) {
            int length = odd(0, 400);
            both("load " + length, () -> x.load(length), () -> model.load(length));
        }
        both("errorPosition", x::errorPosition, model::errorPosition);
    }

    private void loadSome() {
        String text = pick(3) == 0 ? spoiled(someText()) : someText();
        int noLength = 401;
        both("load " + noLength, () -> x.load(noLength), () -> model.load(noLength));
        if (pick(2) == 0) {
            both("load 0", () -> x.load(0), () -> model.load(0));
        }
        for (int at = 0; at < text.length(); at += 20) {
            int a = Checks.four(text, at);
            int b = Checks.four(text, at + 4);
            int c = Checks.four(text, at + 8);
            int d = Checks.four(text, at + 12);
            int e = Checks.four(text, at + 16);
            both("append", () -> x.append(a, b, c, d, e), () -> model.append(a, b, c, d, e));
        }
        both("load '" + text + "'", () -> x.load(text.length()), () -> model.load(text.length()));
        both("errorPosition", x::errorPosition, model::errorPosition);
    }

    private String gap() {
        return pick(6) == 0 ? " ".repeat(pick(3)) : "";
    }

    private String someText() {
        StringBuilder text = new StringBuilder();
        int comparators = 1 + pick(pick(10) == 0 ? 4 : 3);
        for (int n = 0; n < comparators; n++) {
            String sign = pick(2) == 0 ? "-" + gap() : "";
            text.append(gap() + "comparator " + sign + pick(pick(2) == 0 ? 51 : 6) + " "
                    + (pick(3) == 0 ? 0 : pick(pick(2) == 0 ? 31 : 4)) + gap() + ";");
        }
        int weights = 1 + pick(pick(10) == 0 ? 12 : 10);
        for (int n = 0; n < weights; n++) {
            int told = Math.max(1, pick(3) == 0 ? 1 + pick(largest) : largest >> n * 2 / 3);
            int actual = Math.max(1, Math.min(512, told + pick(5) - 2));
            text.append(gap() + "weight " + told + gap() + " " + actual + " " + pick(comparators) + gap() + ";");
        }
        if (pick(2) == 0) {
            text.append(gap() + "seed" + gap() + pick(65536) + gap() + ";" + gap());
        }
        return text.substring(0, Math.min(400, text.length()));
    }

    private String spoiled(String text) {
        int at = pick(text.length());
        String other = pick(2) == 0 ? "" : String.valueOf("0123456789 -;abcweightsd\u00e9\u0000A".charAt(pick(27)));
        String spoiled = switch (pick(4)) {
            case 0 -> text.substring(0, at);
            case 1 -> text.substring(0, at) + other + text.substring(at + 1);
            case 2 -> text.substring(0, at) + other + text.substring(at);
            default -> text.replaceFirst("[0-9]+", String.valueOf(pick(2) == 0 ? pick(600) : 99999999999L));
        };
        return spoiled.substring(0, Math.min(400, spoiled.length()));
    }
}
