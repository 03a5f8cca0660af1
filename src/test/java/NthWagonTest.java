/** Promises 6 to 11: what is asked of the n-th wagon of a track. */
public final class NthWagonTest {
    private static final int NONE = WagonSidings.NONE, UNKNOWN = WagonSidings.UNKNOWN,
        OUTSIDE = WagonSidings.OUTSIDE, STATE = WagonSidings.STATE;

    private static final String[] CALLS = {"wagonAt", "load", "cut", "hoot", "pull", "loadAs"};

    public static void main(String[] args) {
        refusals();
        failures();
        wagonAt();
        longestTrack();
        load();
        cut();
        hoot();
        pull();
        loadAs();
        Check.end();
    }

    private static int ask(WagonSidings x, String call, int track, int n) {
        switch (call) {
            case "wagonAt": return x.wagonAt(track, n);
            case "load": return x.load(track, n, 99);
            case "cut": return x.cut(track, n);
            case "hoot": return x.hoot(track, n);
            case "pull": return x.pull(track, n);
            default: return x.loadAs(track, n, 3);
        }
    }

    private static void refusals() {
        for (String call : CALLS) {
            WagonSidings x = new WagonSidings();
            Check.train(x, 0, 3, 0);
            x.signal(0, 8);
            x.raise(0);
            Check.due(call + "(6, 0)", ask(x, call, 6, 0), UNKNOWN);
            Check.due(call + "(-1, -1)", ask(x, call, -1, -1), UNKNOWN);
            Check.due(call + "(0, -1)", ask(x, call, 0, -1), OUTSIDE);
            Check.due(call + "(0, 41)", ask(x, call, 0, 41), OUTSIDE);
            Check.due(call + "(0, MIN)", ask(x, call, 0, Integer.MIN_VALUE), OUTSIDE);
            Check.told(x, "refused " + call, 6, 0, 8);
        }
    }

    private static void failures() {
        for (String call : CALLS) {
            WagonSidings x = new WagonSidings();
            Check.train(x, 0, 3, 3, 3);
            Check.due(call + "(0, 3)", ask(x, call, 0, 3), -201);
            Check.told(x, call + "(0, 3)", 1, 3, 0);
            Check.due(call + "(0, 40)", ask(x, call, 0, 40), -201);
            Check.told(x, call + "(0, 40)", 1, 3, 0);
            Check.due(call + "(1, 5)", ask(x, call, 1, 5), -201);
            Check.told(x, call + "(1, 5)", 1, 0, 0);
            Check.due("last load after failures", x.about(2, 1), 12);
            Check.due("coupling after failures", x.about(1, 2), 2);
            ask(x, call, 0, 2);
            Check.told(x, call + "(0, 2)", 0, 2, 0);
        }
    }

    private static void wagonAt() {
        WagonSidings x = new WagonSidings();
        x.wagon(0, 5);
        Check.train(x, 2, 0, 1, 2);
        Check.due("wagonAt(2, 0)", x.wagonAt(2, 0), 1);
        Check.due("wagonAt(2, 1)", x.wagonAt(2, 1), 2);
        Check.due("wagonAt(2, 2)", x.wagonAt(2, 2), 3);
        Check.told(x, "wagonAt(2, 2)", 0, 2, 0);
    }

    private static void longestTrack() {
        WagonSidings x = new WagonSidings();
        Check.train(x, 5, new int[40]);
        Check.due("wagonAt(5, 39)", x.wagonAt(5, 39), 39);
        Check.due("couple in a ring", x.couple(39, 0), STATE);
        Check.due("wagonAt(5, 40)", x.wagonAt(5, 40), -201);
        Check.told(x, "wagonAt(5, 40)", 1, 40, 0);
    }

    private static void load() {
        WagonSidings x = new WagonSidings();
        Check.train(x, 1, 0, 1);
        Check.due("load(1, 1, MIN)", x.load(1, 1, Integer.MIN_VALUE), 1);
        Check.due("about(1, 1)", x.about(1, 1), Integer.MIN_VALUE);
        Check.due("about(0, 1)", x.about(0, 1), 10);
    }

    private static void cut() {
        WagonSidings x = new WagonSidings();
        Check.train(x, 1, 0, 1, 2);
        Check.due("cut(1, 0)", x.cut(1, 0), 1);
        Check.told(x, "cut(1, 0)", 0, 0, 0);
        Check.due("about(0, 2)", x.about(0, 2), NONE);
        Check.due("about(1, 2)", x.about(1, 2), 2);
        Check.due("wagonAt(1, 1)", x.wagonAt(1, 1), -201);
        Check.due("cut with none behind", x.cut(1, 0), 1);
        Check.due("couple what was cut", x.couple(0, 1), 1);
        Check.due("wagonAt(1, 2)", x.wagonAt(1, 2), 2);
    }

    private static void hoot() {
        WagonSidings x = new WagonSidings();
        Check.train(x, 0, 0, 1, 2, 3, 4);
        int[] want = {10, 12, 13, 130, 139};
        for (int n = 0; n < want.length; n++) {
            Check.due("hoot(0, " + n + ")", x.hoot(0, n), want[n]);
        }
        x.load(0, 1, Integer.MAX_VALUE);
        Check.due("hoot of a VAN wraps", x.hoot(0, 1), Integer.MIN_VALUE);
        x.load(0, 3, 1 << 30);
        Check.due("hoot of an ENGINE wraps", x.hoot(0, 3), Integer.MIN_VALUE);
        x.load(0, 4, 1 << 30);
        Check.due("hoot of a CRANE wraps", x.hoot(0, 4), Integer.MAX_VALUE);
    }

    private static void pull() {
        WagonSidings x = new WagonSidings();
        Check.train(x, 0, 0, 3, 4, 1, 2);
        Check.due("pull of an OPEN", x.pull(0, 0), -204);
        Check.told(x, "pull(0, 0)", 4, 0, 0);
        Check.due("pull of an ENGINE", x.pull(0, 1), 12 + 13 + 14);
        Check.told(x, "pull(0, 1)", 0, 1, 0);
        Check.due("pull of a CRANE", x.pull(0, 2), 13 + 14 - 12);
        Check.due("pull of a VAN", x.pull(0, 3), -204);
        Check.due("pull of a TANK", x.pull(0, 4), -204);
        Check.told(x, "pull(0, 4)", 4, 4, 0);
        x.load(0, 3, Integer.MAX_VALUE);
        Check.due("pull wraps", x.pull(0, 1), Integer.MAX_VALUE + 12 + 14);
        x.stand(1, x.wagon(3, 5));
        Check.due("pull of an ENGINE alone", x.pull(1, 0), 0);
    }

    private static void loadAs() {
        boolean[][] fits = {
            {true, false, false, false, false},
            {true, true, false, false, false},
            {true, true, true, false, false},
            {true, false, false, true, false},
            {true, false, false, true, true}};
        WagonSidings x = new WagonSidings();
        Check.train(x, 0, 0, 1, 2, 3, 4);
        for (int n = 0; n < 5; n++) {
            for (int kind = 0; kind < 5; kind++) {
                String call = "loadAs(0, " + n + ", " + kind + ")";
                Check.due(call, x.loadAs(0, n, kind), fits[n][kind] ? 10 + n : -204);
                Check.told(x, call, fits[n][kind] ? 0 : 4, n, 0);
            }
        }
        Check.due("loadAs(0, 0, 5)", x.loadAs(0, 0, 5), OUTSIDE);
        Check.due("loadAs(0, 9, -1)", x.loadAs(0, 9, -1), OUTSIDE);
        Check.due("loadAs(6, 0, 5)", x.loadAs(6, 0, 5), UNKNOWN);
        Check.due("FAILURE 1 before 4", x.loadAs(0, 5, 4), -201);
    }
}
