/** Promises 19 and 20: raise, told. */
public final class SignalTest {
    private static final int NONE = WagonSidings.NONE, UNKNOWN = WagonSidings.UNKNOWN;

    public static void main(String[] args) {
        raise();
        toldIsOfTheLatestCall();
        callsWithoutFailuresLeaveTold();
        Check.end();
    }

    private static void raise() {
        WagonSidings x = new WagonSidings();
        Check.due("raise(6)", x.raise(6), UNKNOWN);
        Check.due("raise(-1)", x.raise(-1), UNKNOWN);
        Check.due("raise(5)", x.raise(5), -201);
        Check.told(x, "raise(5)", 1, 0, 0);
        x.signal(5, 77);
        Check.due("raise(5)", x.raise(5), -206);
        Check.told(x, "raise(5)", 6, 0, 77);
        Check.due("it hangs there still", x.raise(5), -206);
        Check.due("signal(5, 0)", x.signal(5, 0), 77);
        Check.due("SIGNAL 0 is one", x.raise(5), -206);
        Check.told(x, "raise(5) of 0", 6, 0, 0);
        Check.due("raise(4)", x.raise(4), -201);
        Check.told(x, "raise(4)", 1, 0, 0);
    }

    private static void toldIsOfTheLatestCall() {
        WagonSidings x = new WagonSidings();
        Check.train(x, 0, 3, 0);
        x.signal(0, 5);
        x.rake(0, 0, 4);
        x.table(0, 1, 1);
        for (int call = 0; call < 12; call++) {
            x.lay(0, 0);
            x.raise(0);
            Check.told(x, "raise", 6, 0, 5);
            int count = callWithFailures(x, call);
            Check.told(x, "call " + call, 0, count, 0);
        }
        Check.due("told(3)", x.told(3), UNKNOWN);
        Check.due("told(-1)", x.told(-1), UNKNOWN);
    }

    /** Makes a call that has no failure here, and answers what told(1) is due to be then. */
    private static int callWithFailures(WagonSidings x, int call) {
        switch (call) {
            case 0: x.wagonAt(0, 1); return 1;
            case 1: x.load(0, 1, 4); return 1;
            case 2: x.hoot(0, 1); return 1;
            case 3: x.pull(0, 0); return 0;
            case 4: x.loadAs(0, 1, 0); return 1;
            case 5: x.lay(0, 0); return 2;
            case 6: x.places(0); return 0;
            case 7: x.loadOn(0, 1); return 0;
            case 8: x.add(0, 0, 0, 3); return 0;
            case 9: x.table(1, 1, 1); return 0;
            case 10: x.rake(1, 1, 1); return 0;
            default: x.cut(0, 1); return 1;
        }
    }

    private static void callsWithoutFailuresLeaveTold() {
        WagonSidings x = new WagonSidings();
        x.signal(0, 5);
        x.raise(0);
        x.wagon(0, 1);
        x.wagon(0, 1);
        x.couple(0, 1);
        x.stand(0, 0);
        x.signal(0, NONE);
        x.drop(0);
        x.about(0, 0);
        x.onRake(0, 0);
        x.rake(0, 9, 1);
        x.table(0, 13, 1);
        x.lay(0, 9);
        x.places(9);
        x.loadOn(9, 0);
        x.add(9, 0, 0, 0);
        x.raise(9);
        x.loadAs(0, 0, 9);
        x.told(9);
        Check.told(x, "calls without failures and refused ones", 6, 0, 5);
    }
}
