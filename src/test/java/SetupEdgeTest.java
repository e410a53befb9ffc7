/** The edges of sections 1 and 5 that a text shows, and of the promises 1 to 7: a test for each sentence. */
public final class SetupEdgeTest {
    private static final int SYNTAX = TrialConverter.SYNTAX_ERROR;
    private static final int VALUE = TrialConverter.VALUE_ERROR;
    private static final int MANY = TrialConverter.TOO_MANY;

    /** 15 bytes. */
    private static final String C = "comparator 0 0;";
    /** 13 bytes. */
    private static final String W = "weight 1 1 0;";
    /** Numbers that would be small ones in 16, 32 or 64 bits. */
    private static final String[] WRAPPED = {"65536", "65537", "2147483648", "4294967295", "4294967296", "4294967297",
        "8589934593", "18446744073709551616", "18446744073709551617", "1" + "0".repeat(200)};

    public static void main(String[] args) {
        ranges();
        texts();
        errors();
        bufferAndLoad();
        askedNumbers();
        Checks.end();
    }

    private static void due(String call, Object got, Object want) {
        Checks.due(call, got, want);
    }

    private static void error(String text, int code, int position) {
        Checks.error(text, code, position);
    }

    private static TrialConverter reads(String text, int weights) {
        return Checks.reads(text, weights);
    }

    // ---- section 1: the ranges

    private static void ranges() {
        s1OneToThreeComparators();
        s1Offsets();
        s1Amplitudes();
        s1OneToTenWeights();
        s1ToldWeights();
        s1ActualWeights();
        s1ComparatorOfAWeight();
        s1TableAtFirst();
        s1NoiseState();
        s1WrappedNumbers();
    }

    private static void s1OneToThreeComparators() {
        error(W, SYNTAX, 0);
        due("1: one comparator", reads(C + W, 1).count(0), 1);
        due("1: three comparators", reads(C.repeat(3) + W, 1).count(0), 3);
        error(C.repeat(4) + W, MANY, 45);
    }

    private static void s1Offsets() {
        for (int offset : new int[] {-50, -49, -1, 0, 1, 49, 50}) {
            due("1: offset", reads("comparator " + offset + " 0;" + W, 1).comparator(0, 0), offset);
        }
        error("comparator -51 0;" + W, VALUE, 12);
        error("comparator 51 0;" + W, VALUE, 11);
        error(C + C + "comparator -51 0;" + W, VALUE, 42);
    }

    private static void s1Amplitudes() {
        for (int amplitude : new int[] {0, 1, 29, 30}) {
            due("1: amplitude", reads("comparator 9 " + amplitude + ";" + W, 1).comparator(0, 1), amplitude);
        }
        error("comparator 0 31;" + W, VALUE, 13);
        error("comparator 0 -1;" + W, SYNTAX, 13);
    }

    private static void s1OneToTenWeights() {
        error(C, SYNTAX, 15);
        error(C + "seed 1;", SYNTAX, 15);
        due("1: one weight", reads(C + W, 1).count(1), 1);
        due("1: ten weights", reads(C + W.repeat(10), 10).count(1), 10);
        error(C + W.repeat(11), MANY, 145);
    }

    private static void s1ToldWeights() {
        for (int told : new int[] {1, 2, 511, 512}) {
            due("1: told", reads(C + "weight " + told + " 7 0;", 1).weight(0, 0), told);
        }
        error(C + "weight 0 7 0;", VALUE, 22);
        error(C + "weight 513 7 0;", VALUE, 22);
        error(C + "weight -1 7 0;", SYNTAX, 22);
    }

    private static void s1ActualWeights() {
        for (int actual : new int[] {1, 2, 511, 512}) {
            due("1: actual", reads(C + "weight 7 " + actual + " 0;", 1).weight(0, 1), actual);
        }
        error(C + "weight 7 0 0;", VALUE, 24);
        error(C + "weight 7 513 0;", VALUE, 24);
        error(C + "weight 7 -1 0;", SYNTAX, 24);
    }

    /** A comparator that exists: those of this text, not those of the converter before. */
    private static void s1ComparatorOfAWeight() {
        due("1: the only one", reads(C + "weight 1 1 0;", 1).weight(0, 2), 0);
        error(C + "weight 1 1 1;", VALUE, 26);
        due("1: the second of two", reads(C + C + "weight 1 1 1;", 1).weight(0, 2), 1);
        error(C + C + "weight 1 1 2;", VALUE, 41);
        due("1: the third of three", reads(C + C + C + "weight 1 1 2;", 1).weight(0, 2), 2);
        error(C + C + C + "weight 1 1 3;", VALUE, 56);
        error(C + "weight 1 1 -0;", SYNTAX, 26);
        TrialConverter x = reads(C + C + C + W, 1);
        due("1: not one of the converter before", Checks.loadText(x, C + "weight 1 1 2;"), VALUE);
        due("1: at its digit", x.errorPosition(), 26);
    }

    private static void s1TableAtFirst() {
        TrialConverter x = reads(C + "weight 1 512 0;weight 512 1 0;", 2);
        due("1: told 1", x.weight(0, 3), 1);
        due("1: told 512", x.weight(1, 3), 512);
    }

    private static void s1NoiseState() {
        due("1: none told", reads(C + W, 1).count(3), 0);
        due("1: seed 0", reads(C + W + "seed 0;", 1).count(3), 0);
        due("1: seed 1", reads(C + W + "seed 1;", 1).count(3), 1);
        due("1: seed 65535", reads(C + W + "seed 65535;", 1).count(3), 65535);
        error(C + W + "seed 65536;", VALUE, 33);
        error(C + W + "seed -1;", SYNTAX, 33);
    }

    private static void s1WrappedNumbers() {
        for (String number : WRAPPED) {
            error("comparator " + number + " 0;" + W, VALUE, 11);
            error("comparator -" + number + " 0;" + W, VALUE, 12);
            error("comparator 0 " + number + ";" + W, VALUE, 13);
            error(C + "weight " + number + " 1 0;", VALUE, 22);
            error(C + "weight 1 " + number + " 0;", VALUE, 24);
            error(C + "weight 1 1 " + number + ";", VALUE, 26);
            error(C + W + "seed " + number + ";", VALUE, 33);
        }
    }

    // ---- section 5: tokens

    private static void texts() {
        s5SpacesInFrontOfEveryToken();
        s5OnlySpacesAreBlank();
        s5WordIsTheLongest();
        s5EachLetterOfAWord();
        s5NumberIsTheLongest();
        s5MinusSign();
        s5SeedIsOptional();
        s5FourHundredBytes();
    }

    private static void s5SpacesInFrontOfEveryToken() {
        String[] tokens = {"comparator", "-", "7", "9", ";", "weight", "5", "6", "0", ";", "seed", "8", ";", ""};
        // Numbers side by side need one space at least.
        boolean[] needed = {false, false, false, true, false, false, false, true, true, false, false, false, false,
            false};
        for (int wide = 0; wide < tokens.length; wide++) {
            for (int spaces = 0; spaces <= 3; spaces++) {
                StringBuilder text = new StringBuilder();
                for (int n = 0; n < tokens.length; n++) {
                    text.append(" ".repeat(n == wide ? Math.max(spaces, needed[n] ? 1 : 0) : needed[n] ? 1 : 0));
                    text.append(tokens[n]);
                }
                TrialConverter x = reads(text.toString(), 1);
                due("5: numbers of " + text, x.comparator(0, 0) * 10000 + x.comparator(0, 1) * 1000
                        + x.weight(0, 0) * 100 + x.weight(0, 1) * 10 + x.count(3), -70000 + 9568);
            }
        }
    }

    /** Each byte there is in front of a text, behind it and in the midst of it. */
    private static void s5OnlySpacesAreBlank() {
        for (int sign = 0; sign <= 255; sign++) {
            char one = (char) sign;
            boolean digit = one >= '0' && one <= '9';
            if (one == ' ') {
                reads(one + C + W, 1);
                reads(C + W + one, 1);
                reads("comparator 1" + one + "0;" + W, 1);
                continue;
            }
            error(one + C + W, SYNTAX, 0);
            error(C + W + one, SYNTAX, 28);
            error(C + W + "seed 1;" + one, SYNTAX, 35);
            error("comparator 1" + one + "0;" + W, digit ? VALUE : SYNTAX, digit ? 11 : 12);
        }
    }

    private static void s5WordIsTheLongest() {
        for (String more : new String[] {"a", "m", "z", "comparator", "weight"}) {
            error("comparator" + more + " 0 0;" + W, SYNTAX, 0);
            error(" comparator" + more + " 0 0;" + W, SYNTAX, 1);
            error(C + "weight" + more + " 1 1 0;", SYNTAX, 15);
            error(C + W + "weight" + more + " 1 1 0;", SYNTAX, 28);
            error(C + W + "seed" + more + " 1;", SYNTAX, 28);
            error(C + W.repeat(10) + "weight" + more + " 1 1 0;", SYNTAX, 145);
            error(C.repeat(3) + "comparator" + more + " 0 0;", SYNTAX, 45);
        }
        // The bytes beside a and z are no letters: they end the word, and are not allowed behind it.
        for (String other : new String[] {"`", "{", "A", "Z", "_"}) {
            error("comparator" + other + " 0 0;" + W, SYNTAX, 10);
            error(C + "weight" + other + " 1 1 0;", SYNTAX, 21);
            error(C + W + "seed" + other + " 1;", SYNTAX, 32);
        }
        error("comparato r 0 0;", SYNTAX, 0);
        error(C + "wei ght 1 1 0;", SYNTAX, 15);
        due("5: digits end a word", reads("comparator7 0;weight5 1 0;seed9;", 1).count(3), 9);
        error(C + "weight 1 1 0seed;", SYNTAX, 27);
    }

    /** One letter is another one, or lacks. */
    private static void s5EachLetterOfAWord() {
        String[] ahead = {"", C, C + W};
        String[] words = {"comparator", "weight", "seed"};
        String[] behind = {" 0 0;" + W, " 1 1 0;", " 1;"};
        for (int n = 0; n < words.length; n++) {
            for (int at = 0; at < words[n].length(); at++) {
                String start = ahead[n] + words[n].substring(0, at);
                String end = words[n].substring(at + 1) + behind[n];
                error(start + "x" + end, SYNTAX, ahead[n].length());
                error(start + end, SYNTAX, ahead[n].length());
                error(start + (char) (words[n].charAt(at) - 32) + end, SYNTAX, ahead[n].length());
            }
        }
    }

    private static void s5NumberIsTheLongest() {
        error("comparator 00;", SYNTAX, 13);
        error(C + "weight 110;", SYNTAX, 25);
        error(C + "weight 1 10;", SYNTAX, 26);
        due("5: zeros ahead", reads("comparator 000050 0000;" + W, 1).comparator(0, 0), 50);
        due("5: zeros ahead of a seed", reads(C + W + "seed 0000000000000065535;", 1).count(3), 65535);
        error("comparator 00051 0;", VALUE, 11);
        error("comparator - 00051 0;", VALUE, 13);
        // The bytes beside 0 and 9 are no digits.
        error("comparator 0/ 0;", SYNTAX, 12);
        error("comparator 0: 0;", SYNTAX, 12);
        error("comparator / 0;", SYNTAX, 11);
        error("comparator : 0;", SYNTAX, 11);
        error("comparator 0 1.5;", SYNTAX, 14);
    }

    private static void s5MinusSign() {
        due("5: minus", reads("comparator-7 0;" + W, 1).comparator(0, 0), -7);
        due("5: minus and spaces", reads("comparator   -   7 0;" + W, 1).comparator(0, 0), -7);
        due("5: minus 0", reads("comparator -0 0;" + W, 1).comparator(0, 0), 0);
        due("5: only of its comparator", reads("comparator -7 0;comparator 8 0;" + W, 1).comparator(1, 0), 8);
        error("comparator --7 0;", SYNTAX, 12);
        error("comparator - ;", SYNTAX, 13);
        error("comparator 7- 0;", SYNTAX, 12);
        error("comparator 7 - 0;", SYNTAX, 13);
        error("comparator +7 0;", SYNTAX, 11);
        error(C + W + "-", SYNTAX, 28);
    }

    private static void s5SeedIsOptional() {
        reads(C + W + "seed 1;", 1);
        error(C + W + "seed 1;seed 1;", SYNTAX, 35);
        error(C + "seed 1;" + W, SYNTAX, 15);
        error("seed 1;" + C + W, SYNTAX, 0);
        error(C + W + "seed 1 1;", SYNTAX, 35);
    }

    private static void s5FourHundredBytes() {
        String spaces = " ".repeat(400 - 29);
        due("5: the last byte is the last token", reads(C + W.substring(0, 12) + spaces + " ;", 1).count(2), 1);
        reads(C + W + spaces + " ", 1);
        error(C + W.substring(0, 12) + spaces + "  ", SYNTAX, 400);
        error(C + W + spaces + "?", SYNTAX, 399);
        error(" ".repeat(400), SYNTAX, 400);
        error(C + W + "seed " + "9".repeat(400 - 33), VALUE, 33);
        due("5: digits to the end", reads(C + W + "seed " + "0".repeat(365) + "7;", 1).count(3), 7);
        error(C + W + "seed " + "0".repeat(366) + "7", SYNTAX, 400);
        error("a".repeat(400), SYNTAX, 0);
        error("comparator" + "a".repeat(390), SYNTAX, 0);
    }

    // ---- section 5: errors

    private static void errors() {
        s5UnexpectedEnd();
        s5FirstErrorOfTheText();
        s5FirstErrorOfTheList();
        s5ValueErrorAtFirstDigit();
        s5TooManyAtItsWord();
    }

    /** A text that is cut within a word has that word as a token that is not allowed; else its end is unexpected. */
    private static void s5UnexpectedEnd() {
        String text = "comparator - 1 2; weight 3 4 0; seed 5;";
        for (int length = 0; length <= text.length(); length++) {
            int word = length == 0 ? 0 : wordStart(text, length);
            String cut = text.substring(0, length);
            if (length == 31 || length == 32 || length == 39) {
                reads(cut, 1);
            } else {
                error(cut, SYNTAX, word);
            }
            if (length > 0 && text.charAt(length - 1) == ';' && length < 31) {
                error(cut + "    ", SYNTAX, length + 4);
            }
        }
    }

    /** The first byte of the word that is cut before a length, or the length. */
    private static int wordStart(String text, int length) {
        int start = length;
        while (start > 0 && Character.isLetter(text.charAt(start - 1))) {
            start--;
        }
        boolean cut = start < length && Character.isLetter(text.charAt(length));
        return cut ? start : length;
    }

    private static void s5FirstErrorOfTheText() {
        error("comparator 51 31;weight 0 0 9;", VALUE, 11);
        error("comparator 50 31;weight 0 0 9;", VALUE, 14);
        error("comparator 50 30 weight 0 0 9;", SYNTAX, 17);
        error("comparator 50 30;weight 0 513 9", VALUE, 24);
        error("comparator 50 30;weight 1 513 9", VALUE, 26);
        error("comparator 50 30;weight 1 512 9", VALUE, 30);
        error("comparator 50 30;weight 1 512 0", SYNTAX, 31);
        error(C + W.repeat(9) + "weight 0 1 0;" + W, VALUE, 139);
        error(C.repeat(2) + "comparator 0 99;" + C, VALUE, 43);
    }

    /** A token that is not allowed is that, also if it is a number out of a range, or one word too many. */
    private static void s5FirstErrorOfTheList() {
        error("comparator 1 1 99999;", SYNTAX, 15);
        error(C + "99999", SYNTAX, 15);
        error(C + "weight 1 1 0 99999;", SYNTAX, 28);
        error(C.repeat(3) + W + C, SYNTAX, 58);
        error(C + W.repeat(10) + "seed 1;" + W, SYNTAX, 152);
        error(C.repeat(3) + W.repeat(10) + C, SYNTAX, 175);
        error(W.repeat(11), SYNTAX, 0);
    }

    private static void s5ValueErrorAtFirstDigit() {
        error("comparator  51 0;", VALUE, 12);
        error("comparator -51 0;", VALUE, 12);
        error("comparator  -  51 0;", VALUE, 15);
        error("comparator 0   31;", VALUE, 15);
        error(C + "weight  513 1 0;", VALUE, 23);
        error(C + "weight 1   513 0;", VALUE, 26);
        error(C + "weight 1 1   1;", VALUE, 28);
        error(C + W + "seed   65536;", VALUE, 35);
        // It is told as soon as its digits end, whatever comes behind it.
        error("comparator 51", VALUE, 11);
        error("comparator 51x", VALUE, 11);
        error(C + W + "seed 65536", VALUE, 33);
    }

    private static void s5TooManyAtItsWord() {
        error(C.repeat(3) + "   comparator", MANY, 48);
        error(C.repeat(3) + "comparator;", MANY, 45);
        error(C.repeat(3) + "comparator 99 99;", MANY, 45);
        error(C + W.repeat(10) + "   weight", MANY, 148);
        error(C + W.repeat(10) + "weight 999 999 9;", MANY, 145);
        error(C.repeat(3) + W.repeat(10) + W, MANY, 175);
        error(C.repeat(3) + "weight", SYNTAX, 51);
        reads(C.repeat(3) + W.repeat(10) + "seed 1;", 10);
    }

    // ---- promises 1 to 4

    private static void bufferAndLoad() {
        p1EmptyBufferAndSlots();
        p2FullBuffer();
        p2OrderOfBytes();
        p3LengthOfTheText();
        p3GoodText();
        p3WrongText();
        p4LatestLoad();
    }

    private static void p1EmptyBufferAndSlots() {
        due("1: as by its text", Whole.numbers(new TrialConverter()),
                Whole.numbers(reads("comparator 0 0; weight 1 1 0;", 1)));
        due("1: no byte in the buffer", new TrialConverter().load(0), SYNTAX);
        Checks.dueThrow("1: no byte more", IllegalArgumentException.class, () -> new TrialConverter().load(1));
        due("1: appends from 0", new TrialConverter().append(0, 0, 0, 0, 0), 20);
        Checks.dueThrow("1: slot 0", IllegalStateException.class, () -> new TrialConverter().restore(0));
        Checks.dueThrow("1: slot 1", IllegalStateException.class, () -> new TrialConverter().restore(1));
        due("1: no conversions", new TrialConverter().count(4), 0);
        due("1: no codes seen", new TrialConverter().count(5), 0);
    }

    private static void p2FullBuffer() {
        TrialConverter x = new TrialConverter();
        for (int length = 20; length <= 400; length += 20) {
            due("2: append to " + length, x.append(1, 2, 3, 4, 5), length);
        }
        Checks.dueThrow("2: append to 420", IllegalStateException.class, () -> x.append(1, 2, 3, 4, 5));
        Checks.dueThrow("2: once more", IllegalStateException.class, () -> x.append(1, 2, 3, 4, 5));
        due("2: an error empties it", x.load(400), SYNTAX);
        due("2: from 0 again", x.append(1, 2, 3, 4, 5), 20);
        Checks.dueThrow("2: a text of 400 without error", IllegalArgumentException.class, () -> x.load(400));
    }

    /** One byte among spaces is the error, so its place tells where it was put. */
    private static void p2OrderOfBytes() {
        for (int place = 0; place < 20; place++) {
            for (int sign : new int[] {0, 1, 127, 128, 255}) {
                int[] words = {0x20202020, 0x20202020, 0x20202020, 0x20202020, 0x20202020};
                int shift = 8 * (3 - place % 4);
                words[place / 4] = words[place / 4] & ~(255 << shift) | sign << shift;
                TrialConverter x = new TrialConverter();
                x.append(words[0], words[1], words[2], words[3], words[4]);
                due("2: byte " + sign + " at " + place, x.load(20), SYNTAX);
                due("2: place of byte " + place, x.errorPosition(), place);
            }
        }
    }

    private static void p3LengthOfTheText() {
        String text = C + W + "seed 9;" + " ".repeat(5);
        for (int length : new int[] {0, 1, 15, 27}) {
            TrialConverter x = new TrialConverter();
            Checks.appendText(x, text);
            due("3: " + length + " bytes", x.load(length), SYNTAX);
            due("3: position", x.errorPosition(), length == 1 ? 0 : length);
            due("3: empty behind " + length, x.append(0, 0, 0, 0, 0), 20);
        }
        TrialConverter x = new TrialConverter();
        Checks.appendText(x, text);
        due("3: the text alone", x.load(28), 1);
        due("3: no seed in it", x.count(3), 0);
        Checks.dueThrow("3: the rest is gone", IllegalArgumentException.class, () -> x.load(1));
        due("3: nothing is left", x.load(0), SYNTAX);
        Checks.appendText(x, text);
        due("3: all bytes", x.load(40), 1);
        due("3: the seed", x.count(3), 9);
        for (int length : new int[] {-1, 41, Integer.MIN_VALUE, Integer.MAX_VALUE}) {
            Checks.appendText(x, text);
            Checks.dueThrow("3: length " + length, IllegalArgumentException.class, () -> x.load(length));
            due("3: the buffer stays", x.load(40), 1);
        }
    }

    private static void p3GoodText() {
        TrialConverter x = reads("comparator 0 3;weight 4 5 0;weight 3 3 0;weight 2 2 0;seed 7;", 3);
        x.average(3, 16);
        x.average(4, 16);
        x.setTable(1, 1023);
        x.save(0);
        x.writeConversion(0);
        due("3: the same text", Checks.loadText(x, C + "weight 4 4 0;weight 3 3 0;weight 2 2 0;"), 3);
        due("3: no conversions kept", x.count(4), 0);
        due("3: no codes seen", x.count(5) + x.count(6), 0);
        due("3: noise state 0 without a seed", x.count(3), 0);
        due("3: table as told", x.count(7), 9);
        due("3: the written text stays", Whole.written(x).substring(3, 4), "=");
        due("3: the slots stay", x.restore(0), 4 + 1023 + 2);
        due("3: ten in place of three", Checks.loadText(x, C + W.repeat(10)), 10);
        due("3: one in place of ten", Checks.loadText(x, C + W), 1);
        Checks.dueThrow("3: the second is gone", IndexOutOfBoundsException.class, () -> x.weight(1, 0));
    }

    private static void p3WrongText() {
        for (String text : new String[] {"", "?", "comparator 51 0;", C.repeat(4), C, C + "weight 1 1 1;",
            C + W.repeat(11), C + W + "seed 65536;", C + W + "seed 1;?"}) {
            TrialConverter x = reads("comparator 0 3;weight 4 5 0;weight 3 3 0;weight 2 2 0;seed 7;", 3);
            x.average(3, 5);
            x.setTable(1, 1023);
            x.save(1);
            x.writeConversion(0);
            String before = Whole.held(x) + Whole.written(x);
            due("3: '" + text + "' is wrong", Checks.loadText(x, text) < 0, true);
            due("3: the present one stays", Whole.held(x) + Whole.written(x), before);
            due("3: the buffer is empty", x.append(0, 0, 0, 0, 0), 20);
            due("3: it is no change", x.undo(), 2);
            due("3: the slots stay", x.restore(1), 4 + 1023 + 2);
        }
    }

    private static void p4LatestLoad() {
        TrialConverter x = new TrialConverter();
        due("4: no call", x.errorPosition(), TrialConverter.NONE);
        x.append(0, 0, 0, 0, 0);
        due("4: append is none", x.errorPosition(), TrialConverter.NONE);
        Checks.dueThrow("4: refused", IllegalArgumentException.class, () -> x.load(21));
        due("4: a refused one is none", x.errorPosition(), TrialConverter.NONE);
        x.load(0);
        due("4: at 0", x.errorPosition(), 0);
        Checks.loadText(x, C + "?");
        due("4: of the latest", x.errorPosition(), 15);
        Checks.dueThrow("4: refused again", IllegalArgumentException.class, () -> x.load(-1));
        due("4: it stays", x.errorPosition(), 15);
        x.convert(1);
        due("4: other calls leave it", x.errorPosition(), 15);
        Checks.loadText(x, C + W);
        due("4: no error", x.errorPosition(), TrialConverter.NONE);
    }

    // ---- promises 5 to 7

    private static void askedNumbers() {
        p5SmallestConverter();
        p5LargestConverter();
        p5Kept();
        p6Users();
        p7Redundancy();
    }

    private static void p5SmallestConverter() {
        TrialConverter x = new TrialConverter();
        int[] want = {1, 1, 1, 0, 0, 0, 0, 1, 0};
        for (int what = 0; what <= 8; what++) {
            due("5: smallest " + what, x.count(what), want[what]);
        }
        x.setTable(0, 0);
        due("5: sum 0", x.count(7), 0);
    }

    private static void p5LargestConverter() {
        TrialConverter x = reads(C.repeat(3) + "weight 512 512 2;".repeat(10) + "seed 65535;", 10);
        int[] want = {3, 10, 5120, 65535, 0, 0, 0, 5120, 9};
        for (int what = 0; what <= 8; what++) {
            due("5: largest " + what, x.count(what), want[what]);
        }
        for (int k = 0; k < 10; k++) {
            x.setTable(k, 1023);
        }
        due("5: the greatest sum", x.count(7), 10230);
        due("5: the range is not of the table", x.count(2), 5120);
    }

    private static void p5Kept() {
        TrialConverter x = reads(C + W, 1);
        for (int n = 1; n <= 21; n++) {
            x.convert(n % 2);
            due("5: kept of " + n, x.count(4), Math.min(n, 20));
            due("5: different of " + n, x.count(5), Math.min(n, 2));
            due("5: seen of " + n, x.count(6), n);
        }
        x.forget(11);
        due("5: 0 was seen 10 times", x.count(5), 1);
        due("5: 1 was seen 11 times", x.count(6), 11);
        due("5: kept still", x.count(4), 20);
        x.forget(12);
        due("5: none seen now", x.count(5) + x.count(6), 0);
    }

    private static void p6Users() {
        TrialConverter x = reads(C.repeat(3) + W.repeat(3) + "weight 1 1 2;", 4);
        due("6: three", x.comparator(0, 2), 3);
        due("6: none", x.comparator(1, 2), 0);
        due("6: the last comparator", x.comparator(2, 2), 1);
        due("6: all ten", reads(C + W.repeat(10), 10).comparator(0, 2), 10);
    }

    private static void p7Redundancy() {
        TrialConverter x = reads(C + "weight 1 512 0;", 1);
        due("7: nothing behind it", x.weight(0, 4), -512);
        due("7: it cannot", x.weight(0, 5), 0);
        TrialConverter y = reads(C + "weight 9 1 0;" + "weight 1 512 0;".repeat(9), 10);
        due("7: the greatest", y.weight(0, 4), 4607);
        due("7: it can", y.weight(0, 5), 1);
        due("7: the last", y.weight(9, 4), -512);
        TrialConverter z = reads(C + "weight 9 3 0;weight 9 2 0;weight 9 1 0;weight 9 1 0;", 4);
        due("7: exactly 0 behind the third", z.weight(2, 4) * 10 + z.weight(2, 5), 1);
        due("7: exactly 0 behind the second", z.weight(1, 4) * 10 + z.weight(1, 5), 1);
        due("7: one too many", z.weight(0, 4) * 10 + z.weight(0, 5), 11);
        due("7: one lacks", reads(C + "weight 1 2 0;weight 9 1 0;", 2).weight(0, 4), -1);
        due("7: so it cannot", reads(C + "weight 1 2 0;weight 9 1 0;", 2).weight(0, 5), 0);
    }
}
