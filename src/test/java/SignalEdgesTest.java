/** The boundary cases of promises 19 and 20, sentence by sentence. */
public final class SignalEdgesTest {
    private static final int UNKNOWN = WagonSidings.UNKNOWN;

    private static final String BUSY = Scene.BUSY;

    public static void main(String[] args) {
        raiseNone();
        raiseOne();
        raiseUnknown();
        toldUnknown();
        toldAtFirst();
        toldByEachCallWithFailures();
        toldByEachFailure();
        toldByCallsWithoutFailures();
        toldByRefusedCalls();
        toldIsReadOnly();
        Check.end();
    }

    /** Promise 19, "FAILURES: 1": no SIGNAL hangs there. */
    private static void raiseNone() {
        Twins.fails("never hung", BUSY, "raise(1)", 1, 0, 0);
        Twins.fails("taken away", BUSY + "signal(0, NONE);", "raise(0)", 1, 0, 0);
        Twins.fails("taken away, the number was 0", BUSY + "signal(5, NONE);", "raise(5)", 1, 0, 0);
        Twins.fails("a new object", "", "raise(0)", 1, 0, 0);
        Twins.fails("a refused one hangs not", BUSY + "signal(1, -2);", "raise(1)", 1, 0, 0);
    }

    /** Promise 19, "FAILURES: .. 6"; promise 20, "2 the number of the SIGNAL that was raised". */
    private static void raiseOne() {
        Twins.fails("the least TRACK", BUSY, "raise(0)", 6, 0, 55);
        Twins.fails("the least number, the greatest TRACK", BUSY, "raise(5)", 6, 0, 0);
        Twins.fails("the greatest number", BUSY + "signal(1, MAX);", "raise(1)", 6, 0, Integer.MAX_VALUE);
        Twins.fails("once more", BUSY + "raise(0);", "raise(0)", 6, 0, 55);
        Twins.fails("another number", BUSY + "signal(0, 56);", "raise(0)", 6, 0, 56);
        Twins.fails("a refused one changes it not", BUSY + "signal(0, -2);", "raise(0)", 6, 0, 55);
    }

    /** Promise 19, "UNKNOWN". */
    private static void raiseUnknown() {
        for (String track : new String[] {"-1", "6", "MIN", "MAX"}) {
            Twins.refused("no TRACK", BUSY, "raise(" + track + ")", UNKNOWN);
        }
    }

    /** Promise 20, "UNKNOWN". */
    private static void toldUnknown() {
        for (String what : new String[] {"-1", "3", "MIN", "MAX"}) {
            Twins.refused("no such what", BUSY, "told(" + what + ")", UNKNOWN);
            Check.due("no such what of a new object", new Yard().ask("told(" + what + ")"), UNKNOWN);
        }
    }

    /** Promise 20 without any such call, or with refused ones alone: no FAILURE, no count, no SIGNAL. */
    private static void toldAtFirst() {
        toldDue("", "", 0, 0, 0);
        toldDue("", "rake(4, 0, 1); rake(0, 5, -1); wagonAt(6, 0); wagonAt(0, 41); raise(6)", 0, 0, 0);
        toldDue("", "wagon(0, 7); stand(0, 0); signal(0, 5); drop(0)", 0, 0, 0);
    }

    private static void toldDue(String setup, String call, int failure, int count, int signal) {
        Yard x = new Yard(setup, call);
        Check.due("told(0) after " + call, x.ask("told(0)"), failure);
        Check.due("told(1) after " + call, x.ask("told(1)"), count);
        Check.due("told(2) after " + call, x.ask("told(2)"), signal);
    }

    /** Promise 20, "Of the latest call of those that have FAILURES: 0 its FAILURE (0: it had none), .., 2 .. (0)". */
    private static void toldByEachCallWithFailures() {
        String[] nth = {"wagonAt(0, 3)", "load(0, 3, 7)", "cut(0, 3)", "hoot(0, 3)", "loadAs(0, 3, 0)"};
        String[] others = {"rake(0, 0, 2)", "places(0)", "loadOn(0, 1)", "table(0, 1, 1)", "add(0, 0, 0, 1)"};
        String engines = BUSY + "wagon(3, 5); wagon(4, 6); couple(0, 8); couple(8, 9);";
        for (String earlier : new String[] {"raise(0);", "lay(0, 0);", "hoot(0, 40);", "pull(0, 1);"}) {
            for (String call : nth) {
                toldDue(BUSY + earlier, call, 0, 3, 0);
            }
            for (String call : others) {
                toldDue(BUSY + earlier, call, 0, 0, 0);
            }
            toldDue(BUSY + earlier, "lay(3, 5)", 0, 1, 0);
            toldDue(engines + earlier, "pull(0, 4)", 0, 4, 0);
            toldDue(engines + earlier, "pull(0, 5)", 0, 5, 0);
        }
    }

    /** Promise 20, "1 .. n, but of FAILURE 1 how many WAGONS the TRACK has; of lay() how many it laid; 0 of others". */
    private static void toldByEachFailure() {
        for (String earlier : new String[] {"raise(0);", "lay(0, 0);", "wagonAt(0, 2);"}) {
            String setup = BUSY + earlier;
            toldDue(setup, "wagonAt(0, 9)", 1, 4, 0);
            toldDue(setup, "load(0, 9, 1)", 1, 4, 0);
            toldDue(setup, "cut(0, 9)", 1, 4, 0);
            toldDue(setup, "hoot(0, 9)", 1, 4, 0);
            toldDue(setup, "pull(0, 9)", 1, 4, 0);
            toldDue(setup, "loadAs(0, 9, 1)", 1, 4, 0);
            toldDue(setup, "pull(0, 3)", 4, 3, 0);
            toldDue(setup, "loadAs(0, 3, 4)", 4, 3, 0);
            toldDue(setup, "rake(0, 0, -1)", 2, 0, 0);
            toldDue(setup, "lay(2, 0)", 1, 0, 0);
            toldDue(setup, "lay(0, 1)", 1, 0, 0);
            toldDue(setup, "lay(0, 0)", 3, 3, 0);
            toldDue(setup, "lay(3, 0)", 5, 1, 0);
            toldDue(setup, "places(2)", 1, 0, 0);
            toldDue(setup, "loadOn(2, 3)", 1, 0, 0);
            toldDue(setup, "loadOn(0, 3)", 3, 0, 0);
            toldDue(setup, "loadOn(3, 3)", 1, 0, 0);
            toldDue(setup, "table(0, -1, 1)", 2, 0, 0);
            toldDue(setup, "add(1, 1, 1, 1)", 1, 0, 0);
            toldDue(setup, "add(0, 2, 1, 1)", 3, 0, 0);
            toldDue(setup, "raise(2)", 1, 0, 0);
            toldDue(setup, "raise(0)", 6, 0, 55);
        }
    }

    /** Promise 20, "of those that have FAILURES": the others leave it, whatever they answer. */
    private static void toldByCallsWithoutFailures() {
        String[] calls = {"wagon(0, 1)", "couple(5, 6)", "stand(1, 5)", "stand(0, NONE)", "signal(0, 9)",
            "signal(0, NONE)", "drop(0)", "drop(2)", "told(0)", "about(0, 1)", "onRake(0, 0)", "onRake(0, 9)",
            "onRake(2, 0)"};
        for (String call : calls) {
            toldDue(BUSY + "raise(0);", call, 6, 0, 55);
            toldDue(BUSY + "lay(0, 0);", call, 3, 3, 0);
            toldDue(BUSY + "hoot(0, 2);", call, 0, 2, 0);
        }
    }

    /** Promise 20, "(that was not refused)". */
    private static void toldByRefusedCalls() {
        String[] calls = {"wagonAt(6, 0)", "wagonAt(0, 41)", "load(-1, 0, 0)", "load(0, -1, 0)", "cut(6, 0)",
            "cut(0, 41)", "hoot(6, 0)", "hoot(0, 41)", "pull(6, 0)", "pull(0, 41)", "loadAs(6, 0, 0)",
            "loadAs(0, 41, 0)", "loadAs(0, 0, 5)", "rake(4, 0, 1)", "rake(0, 5, 1)", "rake(0, 0, 13)", "lay(4, 0)",
            "lay(0, 6)", "places(4)", "loadOn(4, 0)", "table(2, 1, 1)", "table(0, 13, 1)", "table(0, 1, 7)",
            "add(2, 0, 0, 1)", "raise(6)", "wagon(5, 0)", "couple(0, 8)", "couple(3, 3)", "stand(6, 0)",
            "stand(0, 0)", "signal(0, -2)", "drop(4)", "told(3)", "about(8, 0)", "onRake(4, 0)"};
        for (String call : calls) {
            toldDue(BUSY + "raise(0);", call, 6, 0, 55);
            toldDue(BUSY + "lay(0, 0);", call, 3, 3, 0);
            toldDue(BUSY + "hoot(0, 2);", call, 0, 2, 0);
        }
    }

    /** Promise 20: told() itself changes nothing. */
    private static void toldIsReadOnly() {
        for (int what = 0; what < 3; what++) {
            Yard x = new Yard(BUSY, "raise(0)");
            int first = x.ask("told(" + what + ")");
            Check.due("told(" + what + ") twice", x.ask("told(" + what + ")"), first);
        }
    }
}
