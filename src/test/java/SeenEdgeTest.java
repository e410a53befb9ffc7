import java.util.NoSuchElementException;

/** The edges of the codes seen in section 2 and of the promises 20 to 23: a test for each sentence. */
public final class SeenEdgeTest {
    private static final Class<?> INDEX = IndexOutOfBoundsException.class;
    private static final Class<?> ARGUMENT = IllegalArgumentException.class;
    private static final Class<?> ELEMENT = NoSuchElementException.class;

    private static final String C = "comparator 0 0;";
    /** Its codes are its inputs, from 0 to 7. */
    private static final String PLAIN = C + "weight 4 4 0;weight 2 2 0;weight 1 1 0;";

    public static void main(String[] args) {
        s2PlaceWhenFirstSeen();
        s2PlaceAgainIfForgotten();
        s2CountedInAll();
        p20AnyNumber();
        p21Ends();
        p22FirstOfSeveral();
        p22Undone();
        p22None();
        p23Times();
        p23ThousandTimes();
        p23WhatStays();
        p23Empty();
        seenInFiveHundredCalls();
        Checks.end();
    }

    private static void due(String call, Object got, Object want) {
        Checks.due(call, got, want);
    }

    private static String order(TrialConverter x) {
        StringBuilder codes = new StringBuilder();
        for (int place = 0; place < x.count(5); place++) {
            codes.append(x.seenAt(place)).append('*').append(x.seen(x.seenAt(place))).append(' ');
        }
        return codes.toString();
    }

    private static void s2PlaceWhenFirstSeen() {
        TrialConverter x = Checks.loaded(PLAIN);
        for (int input : new int[] {3, 7, 3, 0, 7, 7}) {
            x.convert(input);
        }
        due("2: in their order", order(x), "3*2 7*3 0*1 ");
        x.undo();
        x.undo();
        x.undo();
        due("2: without the last three", order(x), "3*2 7*1 ");
        x.convert(1);
        due("2: 0 has no place any more", order(x), "3*2 7*1 1*1 ");
    }

    private static void s2PlaceAgainIfForgotten() {
        TrialConverter x = Checks.loaded(PLAIN);
        x.convert(6);
        x.average(5, 2);
        x.average(4, 3);
        x.forget(2);
        due("2: without 6", order(x), "5*2 4*3 ");
        x.convert(6);
        due("2: 6 is the last one now", order(x), "5*2 4*3 6*1 ");
        x.convert(5);
        due("2: 5 keeps its place", order(x), "5*3 4*3 6*1 ");
        x.undo();
        x.undo();
        x.undo();
        due("2: 6 is the first one before all of it", order(x), "6*1 5*2 4*3 ");
    }

    private static void s2CountedInAll() {
        TrialConverter x = Checks.loaded(PLAIN);
        for (int n = 1; n <= 21; n++) {
            x.convert(2);
            due("2: " + n + " times", x.seen(2), n);
        }
        due("2: 20 of them are kept", x.count(4), 20);
        x.average(2, 16);
        due("2: each of an average", x.seen(2), 37);
        x.setTable(1, 9);
        due("2: by the table as it was", x.seen(2), 37);
        x.convert(2);
        due("2: by the table as it is", x.seen(9), 1);
        Checks.loadText(x, PLAIN);
        due("2: none behind a load", x.seen(2) + x.seen(9), 0);
    }

    private static void p20AnyNumber() {
        TrialConverter x = Checks.loaded(C + "weight 512 1 0;".repeat(10));
        for (int code : new int[] {0, -1, 1, 5120, 10230, 10231, Integer.MIN_VALUE, Integer.MAX_VALUE}) {
            due("20: none seen, " + code, x.seen(code), 0);
        }
        x.convert(0);
        x.convert(10);
        due("20: 0", x.seen(0), 1);
        due("20: the greatest", x.seen(5120), 1);
        due("20: another", x.seen(5119) + x.seen(5121) + x.seen(-5120) + x.seen(1), 0);
        for (int code : new int[] {-1, Integer.MIN_VALUE, Integer.MAX_VALUE}) {
            due("20: " + code, x.seen(code), 0);
        }
        for (int k = 0; k < 10; k++) {
            x.setTable(k, 1023);
        }
        x.convert(10);
        due("20: the greatest there is", x.seen(10230), 1);
        x.forget(2);
        due("20: forgotten", x.seen(10230), 0);
    }

    private static void p21Ends() {
        TrialConverter x = Checks.loaded(PLAIN);
        for (int place : new int[] {0, -1, 1, Integer.MIN_VALUE, Integer.MAX_VALUE}) {
            Checks.dueThrow("21: none seen, " + place, INDEX, () -> x.seenAt(place));
        }
        x.convert(7);
        due("21: the first", x.seenAt(0), 7);
        Checks.dueThrow("21: no second", INDEX, () -> x.seenAt(1));
        x.convert(0);
        due("21: the second", x.seenAt(1), 0);
        for (int place : new int[] {-1, 2, Integer.MIN_VALUE, Integer.MAX_VALUE}) {
            Checks.dueThrow("21: of two, " + place, INDEX, () -> x.seenAt(place));
        }
        x.average(0, 2);
        x.forget(2);
        due("21: the place is another one behind forget", x.seenAt(0), 0);
        Checks.dueThrow("21: no second behind forget", INDEX, () -> x.seenAt(1));
    }

    private static void p22FirstOfSeveral() {
        TrialConverter x = Checks.loaded(PLAIN);
        x.convert(5);
        due("22: one", x.mostSeen(), 5);
        x.convert(2);
        x.convert(7);
        due("22: of three", x.mostSeen(), 5);
        x.convert(7);
        due("22: the last one", x.mostSeen(), 7);
        x.convert(2);
        due("22: of two", x.mostSeen(), 2);
        x.convert(5);
        due("22: of three, not the latest nor the greatest", x.mostSeen(), 5);
        x.convert(0);
        due("22: 0 once", x.mostSeen(), 5);
        x.average(0, 2);
        due("22: 0 most often", x.mostSeen(), 0);
        // The order is that of the places, which a code gets anew if it was forgotten.
        TrialConverter y = Checks.loaded(PLAIN);
        y.convert(3);
        y.average(6, 2);
        y.forget(2);
        y.average(3, 2);
        due("22: 3 has a later place now", y.mostSeen(), 6);
    }

    /** A code that was seen more often, but is undone, is not there any more; nor is one where 16 were seen. */
    private static void p22Undone() {
        TrialConverter x = Checks.loaded(PLAIN);
        x.convert(6);
        x.average(1, 5);
        due("22: 1 five times", x.mostSeen(), 1);
        x.undo();
        due("22: 6 once", x.mostSeen(), 6);
        due("23: and 1 is none to forget", x.forget(2), 1);
        TrialConverter y = Checks.loaded(C + "weight 16 16 0;weight 8 8 0;weight 4 4 0;weight 2 2 0;weight 1 1 0;");
        for (int n = 1; n <= 32; n++) {
            y.convert(32 - n);
            due("22: the first of " + n, y.mostSeen(), 31);
            due("21: the last of " + n, y.seenAt(n - 1), 32 - n);
            due("23: none of " + n, y.forget(1), 0);
        }
    }

    private static void p22None() {
        TrialConverter x = Checks.loaded(PLAIN);
        Checks.dueThrow("22: none seen", ELEMENT, x::mostSeen);
        x.convert(0);
        due("22: 0 is a code", x.mostSeen(), 0);
        x.forget(2);
        Checks.dueThrow("22: all forgotten", ELEMENT, x::mostSeen);
        x.undo();
        due("22: undone", x.mostSeen(), 0);
        x.undo();
        Checks.dueThrow("22: all undone", ELEMENT, x::mostSeen);
    }

    private static void p23Times() {
        TrialConverter x = Checks.loaded(PLAIN);
        x.convert(1);
        x.average(2, 2);
        x.average(3, 3);
        due("23: 1 forgets none", x.forget(1), 0);
        due("23: less than twice", x.forget(2), 1);
        due("23: again none", x.forget(2), 0);
        due("23: less than 3 times", x.forget(3), 1);
        due("23: 3 times stay", order(x), "3*3 ");
        due("23: less than 4 times", x.forget(4), 1);
        for (int times : new int[] {0, -1, 1001, Integer.MIN_VALUE, Integer.MAX_VALUE}) {
            Checks.dueThrow("23: " + times, ARGUMENT, () -> x.forget(times));
        }
        due("23: undone", x.undo(), 7);
        due("23: it is back", order(x), "3*3 ");
    }

    /** The greatest number that may be told: 1000 times is not less often. */
    private static void p23ThousandTimes() {
        TrialConverter x = Checks.loaded(PLAIN);
        for (int n = 0; n < 62; n++) {
            x.average(4, 16);
            x.average(6, 16);
        }
        x.average(4, 7);
        x.average(6, 8);
        due("23: 999 and 1000 times", order(x), "4*999 6*1000 ");
        due("23: less than 999", x.forget(999), 0);
        due("23: less than 1000", x.forget(1000), 1);
        due("23: 1000 stay", order(x), "6*1000 ");
    }

    private static void p23WhatStays() {
        TrialConverter x = Checks.loaded(PLAIN + "seed 9;");
        for (int input : new int[] {7, 1, 6, 2, 5, 3, 1, 2, 3}) {
            x.convert(input);
        }
        x.setTable(0, 100);
        int noise = x.count(3);
        due("23: the first, one in the midst and the last of the once seen", x.forget(2), 3);
        due("23: the order of the others", order(x), "1*2 2*2 3*2 ");
        due("23: conversions stay", x.count(4), 9);
        due("23: with those codes", x.conversion(8, 1), 7);
        due("23: the table stays", x.weight(0, 3), 100);
        due("23: the noise stays", x.count(3), noise);
    }

    private static void p23Empty() {
        TrialConverter x = Checks.loaded(PLAIN);
        due("23: none seen", x.forget(1000), 0);
        due("23: a change all the same", x.undo(), 1);
        x.convert(3);
        due("23: the only one", x.forget(1000), 1);
        due("23: none any more", x.forget(1000), 0);
        due("23: none", x.count(5) + x.count(6), 0);
        Checks.dueThrow("23: no place", INDEX, () -> x.seenAt(0));
    }

    /** Many different codes within an object's 512 calls, for nothing tells a bound of them. */
    private static void seenInFiveHundredCalls() {
        TrialConverter x = new TrialConverter();
        StringBuilder text = new StringBuilder("comparator 0 30;");
        for (int weight = 512; weight >= 1; weight /= 2) {
            text.append("weight ").append(weight).append(' ').append(weight).append(" 0;");
        }
        int calls = 1 + (text.length() + 19) / 20;
        due("20: a text", Checks.loadText(x, text.toString()), 10);
        int averages = 0;
        int asked = 4;
        for (int n = calls; n < 512 - asked; n += 2) {
            x.setTable(0, 2 * n);
            x.average(700, 16);
            averages++;
        }
        int different = x.count(5);
        due("20: many different", different > 500, true);
        due("20: all counted", x.count(6), 16 * averages);
        due("20: the last one was seen", x.seen(x.seenAt(different - 1)) > 0, true);
    }
}
