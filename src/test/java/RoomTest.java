import java.lang.management.ManagementFactory;

/**
 * All calls of one run live in one room of some 600,000 objects and 7.3 million fields and elements. An object takes 16
 * bytes at least and an element one byte at least, so a run that makes less than 4 million bytes keeps to both.
 */
public final class RoomTest {
    private static final com.sun.management.ThreadMXBean THREADS =
            (com.sun.management.ThreadMXBean) ManagementFactory.getThreadMXBean();
    private static final long ROOM = 4000000;
    private static final int CALLS = 512;
    /** 154 bytes in 8 calls of append: ten weights with as many codes as there can be. */
    private static final String LONG = longText();
    /** 28 bytes in 2 calls of append, the least that a text needs. */
    private static final String SHORT = "comparator 0 0;weight 1 1 0;";

    public static void main(String[] args) {
        if (!THREADS.isThreadAllocatedMemorySupported()) {
            System.out.println("this machine does not tell what is made: nothing was looked at");
            return;
        }
        THREADS.setThreadAllocatedMemoryEnabled(true);
        eachCall();
        eachRefusal();
        run("texts", 3, (x, n) -> Checks.loadText(x, SHORT));
        run("wrong texts", 2, (x, n) -> Checks.loadText(x, "comparator 0 0;weigh"));
        run("empty texts", 1, (x, n) -> x.load(0));
        run("new codes", 2, (x, n) -> x.setTable(n % 10, 2 * n) + x.average(700, 16));
        run("new codes and undo", 4, (x, n) -> x.setTable(0, n) + x.average(700, 16) + x.average(300, 16) + x.undo());
        run("ramps", 2, (x, n) -> x.setTable(n % 10, n) + x.missing());
        run("written texts", 2, (x, n) -> x.convert(n) + x.writeConversion(0));
        Checks.end();
    }

    /** A call that is made again and again, with a number that counts on. */
    private interface Again {
        Object answer(TrialConverter x, int n);
    }

    private static String longText() {
        StringBuilder text = new StringBuilder("comparator 0 30;");
        for (int weight = 512; weight >= 1; weight /= 2) {
            text.append("weight ").append(weight).append(' ').append(weight).append(" 0;");
        }
        return text.toString();
    }

    private static void run(String name, int callsOfOne, Again again) {
        long before = THREADS.getCurrentThreadAllocatedBytes();
        TrialConverter x = new TrialConverter();
        int made = Checks.loadText(x, LONG) == 10 ? 1 + (LONG.length() + 19) / 20 : CALLS;
        for (int n = 0; made + callsOfOne <= CALLS; n++) {
            int number = n;
            Checks.outcome(() -> again.answer(x, number));
            made += callsOfOne;
        }
        long taken = THREADS.getCurrentThreadAllocatedBytes() - before;
        Checks.due(name + " make " + taken + " bytes: that is less than the room", taken < ROOM, true);
    }

    private static void eachCall() {
        run("append", 1, (x, n) -> x.append(n, n, n, n, n));
        run("errorPosition", 1, (x, n) -> x.errorPosition());
        run("count", 1, (x, n) -> x.count(n % 9));
        run("comparator", 1, (x, n) -> x.comparator(0, n % 3));
        run("weight", 1, (x, n) -> x.weight(n % 10, n % 6));
        run("setTable", 1, (x, n) -> x.setTable(n % 10, n));
        run("resetTable", 1, (x, n) -> x.resetTable());
        run("calibrate", 1, (x, n) -> x.calibrate(n % 10, 16));
        run("calibrateAll", 1, (x, n) -> x.calibrateAll(16));
        run("setNoise", 1, (x, n) -> x.setNoise(n));
        run("convert", 1, (x, n) -> x.convert(2 * n));
        run("average", 1, (x, n) -> x.average(2 * n, 16));
        run("quiet", 1, (x, n) -> x.quiet(n));
        run("spread", 1, (x, n) -> x.spread(n, 16));
        run("conversion", 2, (x, n) -> x.convert(n) + x.conversion(0, n % 5));
        run("trial", 2, (x, n) -> x.convert(n) + x.trial(0, n % 10, n % 3));
        run("decidedWrong", 2, (x, n) -> x.average(n, 16) + x.decidedWrong());
        run("seen and count", 3, (x, n) -> x.average(n, 16) + x.seen(n) + x.count(6));
        run("seenAt and mostSeen", 3, (x, n) -> x.convert(n) + x.seenAt(0) + x.mostSeen());
        run("forget", 2, (x, n) -> x.average(n, 16) + x.forget(1 + n % 3));
        run("codes", 1, (x, n) -> x.codes());
        run("missingAt", 2, (x, n) -> x.setTable(0, 1023) + x.missingAt(n));
        run("width and widest", 2, (x, n) -> x.width(n) + x.widest());
        run("stepsBack", 1, (x, n) -> x.stepsBack());
        run("worstInput", 1, (x, n) -> x.worstInput());
        run("meanError", 1, (x, n) -> x.meanError());
        run("absorbs", 1, (x, n) -> x.absorbs(n % 10, n % 2 == 0));
        run("inputFor", 1, (x, n) -> x.inputFor(n));
        run("risingFrom", 1, (x, n) -> x.risingFrom());
        run("writtenByte", 3, (x, n) -> x.convert(n) + x.writeConversion(0) + x.writtenByte(0));
        run("undo", 2, (x, n) -> x.convert(n) + x.undo());
        run("save and restore", 2, (x, n) -> x.save(n % 2) + x.restore(n % 2));
    }

    /** An exception is an object too. */
    private static void eachRefusal() {
        run("refused load", 1, (x, n) -> x.load(-1));
        run("refused convert", 1, (x, n) -> x.convert(-1));
        run("refused weight", 1, (x, n) -> x.weight(10, 0));
        run("refused calibrate", 1, (x, n) -> x.calibrate(9, 1));
        run("refused missingAt", 1, (x, n) -> x.missingAt(-1));
        run("refused undo", 2, (x, n) -> x.undo());
        run("refused restore", 1, (x, n) -> x.restore(0));
    }
}
