/** The boundary cases of promises 6 to 11, asked of the n-th WAGON of a TRACK, sentence by sentence. */
public final class NthWagonEdgesTest {
    private static final int UNKNOWN = WagonSidings.UNKNOWN, OUTSIDE = WagonSidings.OUTSIDE;

    private static final String BUSY = Scene.BUSY;

    /** 40 WAGONS on TRACK 5, all ENGINES of LOAD 1, so that none of the six calls has FAILURE 4. */
    private static final String LONG = Scene.train(5, 40, 3);

    /** The six calls, $ standing for the TRACK and n. */
    private static final String[] CALLS = {
        "wagonAt($)", "load($, 99)", "cut($)", "hoot($)", "pull($)", "loadAs($, 3)"};

    public static void main(String[] args) {
        for (String call : CALLS) {
            unknownTracks(call);
            outsideNumbers(call);
            leastAndGreatestNumbers(call);
            emptyTrack(call);
            beyondTheLast(call);
            behindACut(call);
        }
        wagonAtEach();
        loadAnyNumber();
        cutEach();
        cutTheLast();
        hootOfKinds();
        hootWraps();
        pullOfKinds();
        pullOfNoEngine();
        pullWraps();
        loadAsKinds();
        loadAsOtherKinds();
        loadAsOutsideKinds();
        Check.end();
    }

    private static String at(String call, String track, String n) {
        return call.replace("$", track + ", " + n);
    }

    private static String at(String call, int track, int n) {
        return at(call, "" + track, "" + n);
    }

    /** "UNKNOWN", ahead of OUTSIDE. */
    private static void unknownTracks(String call) {
        for (String track : new String[] {"-1", "6", "MIN", "MAX"}) {
            for (String n : new String[] {"0", "9", "40", "-1", "41", "MIN", "MAX"}) {
                Twins.refused("no TRACK", BUSY, at(call, track, n), UNKNOWN);
            }
        }
    }

    /** "OUTSIDE: n is below 0, above 40", ahead of FAILURE 1. */
    private static void outsideNumbers(String call) {
        for (String n : new String[] {"-1", "41", "MIN", "MAX"}) {
            Twins.refused("n outside", BUSY, at(call, "0", n), OUTSIDE);
            Twins.refused("n outside, no WAGON", BUSY, at(call, "1", n), OUTSIDE);
            Twins.refused("n outside, 40 WAGONS", LONG, at(call, "5", n), OUTSIDE);
        }
    }

    /** n from 0 to 40 is taken, and told(1) is n; of FAILURE 1 how many WAGONS the TRACK has. */
    private static void leastAndGreatestNumbers(String call) {
        for (int n : new int[] {0, 1, 38, 39}) {
            Yard x = new Yard(LONG);
            int answer = x.ask(at(call, 5, n));
            Check.due(call + " of " + n + " is no failure", answer >= 0 ? 1 : 0, 1);
            Check.due("told(0) of " + call, x.ask("told(0)"), 0);
            Check.due("told(1) of " + call, x.ask("told(1)"), n);
            Check.due("told(2) of " + call, x.ask("told(2)"), 0);
        }
        Twins.fails("n = 40 of 40", LONG, at(call, 5, 40), 1, 40, 0);
    }

    /** FAILURE 1, "the n-th WAGON, or one on the way to it": none stands FIRST. */
    private static void emptyTrack(String call) {
        for (int n : new int[] {0, 1, 39, 40}) {
            Twins.fails("an empty TRACK", BUSY, at(call, 1, n), 1, 0, 0);
            Twins.fails("a new object", "", at(call, 0, n), 1, 0, 0);
        }
        Twins.fails("an emptied TRACK", BUSY + "stand(5, NONE);", at(call, 5, 0), 1, 0, 0);
    }

    /** FAILURE 1, "the n-th WAGON, or one on the way to it": the TRACK ends ahead of it. */
    private static void beyondTheLast(String call) {
        for (int n : new int[] {4, 5, 39, 40}) {
            Twins.fails("n beyond 4 WAGONS", BUSY, at(call, 0, n), 1, 4, 0);
        }
        Twins.fails("n beyond 1 WAGON", BUSY, at(call, 5, 1), 1, 1, 0);
    }

    private static void behindACut(String call) {
        Twins.fails("n behind a cut", BUSY + "cut(0, 1);", at(call, 0, 2), 1, 2, 0);
        Twins.fails("n far behind a cut", BUSY + "cut(0, 0);", at(call, 0, 3), 1, 1, 0);
    }

    /** Promise 6, "Its number". */
    private static void wagonAtEach() {
        int[] due = {3, 1, 2, 0};
        for (int n = 0; n < due.length; n++) {
            Twins.succeeds("wagonAt", BUSY, "wagonAt(0, " + n + ")", due[n], n);
        }
        Twins.succeeds("the greatest TRACK", BUSY, "wagonAt(5, 0)", 4, 0);
        Twins.succeeds("the last of 40", LONG, "wagonAt(5, 39)", 39, 39);
        Twins.succeeds("coupled later", BUSY + "couple(0, 6);", "wagonAt(0, 5)", 7, 5);
    }

    /** Promise 7, "Its LOAD is v: 1"; "a LOAD (any number)". */
    private static void loadAnyNumber() {
        for (int v : new int[] {Integer.MIN_VALUE, -201, -1, 0, 1, Integer.MAX_VALUE}) {
            Twins.succeeds("the last one's LOAD", BUSY, "load(0, 3, " + v + ")", 1, 3, "about(0, 1)=" + v);
            Twins.succeeds("the first one's LOAD", BUSY, "load(5, 0, " + v + ")", 1, 0, "about(4, 1)=" + v);
        }
        Twins.succeeds("the same again", BUSY, "load(0, 0, 40)", 1, 0);
        Twins.succeeds("the last of 40", LONG, "load(5, 39, -8)", 1, 39, "about(39, 1)=-8");
    }

    /** Promise 8, "What is BEHIND it is not any more: 1". */
    private static void cutEach() {
        Twins.succeeds("behind the FIRST", BUSY, "cut(0, 0)", 1, 0, "about(3, 2)=-1", "1 has one ahead=0");
        Twins.succeeds("in the middle", BUSY, "cut(0, 1)", 1, 1, "about(1, 2)=-1", "2 has one ahead=0");
        Twins.succeeds("ahead of the last", BUSY, "cut(0, 2)", 1, 2, "about(2, 2)=-1", "0 has one ahead=0");
        Twins.succeeds("ahead of the last of 40", LONG, "cut(5, 38)", 1, 38,
            "about(38, 2)=-1", "39 has one ahead=0");
    }

    /** Promise 8, where nothing is BEHIND: nothing is there to change. */
    private static void cutTheLast() {
        Twins.succeeds("the last one", BUSY, "cut(0, 3)", 1, 3);
        Twins.succeeds("the only one", BUSY, "cut(5, 0)", 1, 0);
        Twins.succeeds("the last of 40", LONG, "cut(5, 39)", 1, 39);
        Twins.succeeds("cut again", BUSY + "cut(0, 1);", "cut(0, 1)", 1, 1);
    }

    /** Promise 9; "HOOT: of a WAGON its LOAD; of a VAN (a TANK) 1 more; of an ENGINE 10 times ..". */
    private static void hootOfKinds() {
        Twins.succeeds("an ENGINE", BUSY, "hoot(0, 0)", 400, 0);
        Twins.succeeds("a VAN", BUSY, "hoot(0, 1)", 21, 1);
        Twins.succeeds("a TANK", BUSY, "hoot(0, 2)", 31, 2);
        Twins.succeeds("an OPEN", BUSY, "hoot(0, 3)", 10, 3);
        Twins.succeeds("a CRANE", BUSY, "hoot(5, 0)", 499, 0);
        int[] none = {0, 1, 1, 0, -1};
        int[] less = {-1, 0, 0, -10, -11};
        for (int kind = 0; kind < 5; kind++) {
            hootDue(kind, 0, none[kind]);
            hootDue(kind, -1, less[kind]);
        }
    }

    private static void hootDue(int kind, int load, int due) {
        Yard x = new Yard("wagon(" + kind + ", " + load + "); stand(0, 0)");
        Check.due("hoot of KIND " + kind + ", LOAD " + load, x.ask("hoot(0, 0)"), due);
    }

    /** "(All in 32 bits, wrapping.)" of HOOT. */
    private static void hootWraps() {
        int max = Integer.MAX_VALUE, min = Integer.MIN_VALUE;
        hootDue(0, max, max);
        hootDue(0, min, min);
        for (int kind = 1; kind <= 2; kind++) {
            hootDue(kind, max - 1, max);
            hootDue(kind, max, min);
            hootDue(kind, min, min + 1);
        }
        hootDue(3, 214748364, 2147483640);
        hootDue(3, 214748365, -2147483646);
        hootDue(3, -214748364, -2147483640);
        hootDue(3, -214748365, 2147483646);
        hootDue(3, max, -10);
        hootDue(3, min, 0);
        hootDue(4, 214748364, 2147483639);
        hootDue(4, 214748365, -2147483647);
        hootDue(4, 1 << 30, max);
        hootDue(4, max, -11);
        hootDue(4, min, -1);
    }

    /** Promise 10; "PULL of an ENGINE: the LOADS of all BEHIND it, together; of a CRANE that less its own LOAD". */
    private static void pullOfKinds() {
        Twins.succeeds("an ENGINE", BUSY, "pull(0, 0)", 60, 0);
        Twins.succeeds("an ENGINE alone", BUSY + "cut(0, 0);", "pull(0, 0)", 0, 0);
        Twins.succeeds("a CRANE alone", BUSY, "pull(5, 0)", -50, 0);
        Twins.succeeds("a CRANE with two behind", BUSY + "couple(4, 6);", "pull(5, 0)", 100, 0);
        Twins.succeeds("39 behind", LONG, "pull(5, 0)", 39, 0);
        Twins.succeeds("38 behind, one ahead", LONG, "pull(5, 1)", 38, 1);
        Twins.succeeds("39 ahead", LONG, "pull(5, 39)", 0, 39);
        Twins.succeeds("a LOAD of now", BUSY + "load(0, 3, -40);", "pull(0, 0)", 10, 0);
    }

    /** Promise 10, "FAILURES: 1; 4: it is no ENGINE". */
    private static void pullOfNoEngine() {
        Twins.fails("a VAN", BUSY, "pull(0, 1)", 4, 1, 0);
        Twins.fails("a TANK", BUSY, "pull(0, 2)", 4, 2, 0);
        Twins.fails("an OPEN, the last one", BUSY, "pull(0, 3)", 4, 3, 0);
        for (int kind = 0; kind < 3; kind++) {
            Twins.fails("the FIRST, KIND " + kind, "wagon(" + kind + ", 1); stand(0, 0);", "pull(0, 0)", 4, 0, 0);
            Twins.fails("the last of 40, KIND " + kind, Scene.train(5, 40, kind), "pull(5, 39)", 4, 39, 0);
        }
    }

    /** "(All in 32 bits, wrapping.)" of PULL. */
    private static void pullWraps() {
        pullDue(3, 5, "MAX", "0", Integer.MAX_VALUE);
        pullDue(3, 5, "MAX", "1", Integer.MIN_VALUE);
        pullDue(3, 5, "MIN", "-1", Integer.MAX_VALUE);
        pullDue(3, 5, "MIN", "MIN", 0);
        pullDue(4, Integer.MAX_VALUE, "-1", "0", Integer.MIN_VALUE);
        pullDue(4, Integer.MAX_VALUE, "-1", "-1", Integer.MAX_VALUE);
        pullDue(4, Integer.MIN_VALUE, "0", "0", Integer.MIN_VALUE);
        pullDue(4, Integer.MIN_VALUE, "0", "-1", Integer.MAX_VALUE);
        pullDue(4, 1, "MAX", "1", Integer.MAX_VALUE);
    }

    /** Of a WAGON of this KIND and LOAD, with two of these LOADS behind. */
    private static void pullDue(int kind, int load, String second, String third, int due) {
        Yard x = new Yard("wagon(" + kind + ", " + load + "); wagon(0, " + second + "); wagon(1, " + third + ");",
            "couple(0, 1); couple(1, 2); stand(0, 0)");
        String call = "pull of KIND " + kind + ", LOAD " + load + ", behind it " + second + ", " + third;
        Check.due(call, x.ask("pull(0, 0)"), due);
    }

    /** Promise 11, "Its LOAD, taken as a KIND"; "2 TANK, which is a VAN", "4 CRANE, which is an ENGINE". */
    private static void loadAsKinds() {
        int[][] places = {{0, 0, 3, 40}, {0, 1, 1, 20}, {0, 2, 2, 30}, {0, 3, 0, 10}, {5, 0, 4, 50}};
        for (int[] p : places) {
            String at = "loadAs(" + p[0] + ", " + p[1] + ", ";
            Twins.succeeds("as its own KIND", BUSY, at + p[2] + ")", p[3], p[1]);
            Twins.succeeds("as KIND 0, as a RAKE of KIND 0 takes it", BUSY, at + "0)", p[3], p[1]);
        }
        Twins.succeeds("a TANK is a VAN", BUSY, "loadAs(0, 2, 1)", 30, 2);
        Twins.succeeds("a CRANE is an ENGINE", BUSY, "loadAs(5, 0, 3)", 50, 0);
        Twins.succeeds("any LOAD", BUSY + "load(0, 3, MIN);", "loadAs(0, 3, 0)", Integer.MIN_VALUE, 3);
        Twins.succeeds("any LOAD", BUSY + "load(5, 0, MAX);", "loadAs(5, 0, 4)", Integer.MAX_VALUE, 0);
    }

    /** Promise 11, "FAILURES: 1; 4"; "4 KIND: it is another one". */
    private static void loadAsOtherKinds() {
        int[][] others = {{0, 0, 1}, {0, 0, 2}, {0, 0, 4}, {0, 1, 2}, {0, 1, 3}, {0, 1, 4}, {0, 2, 3}, {0, 2, 4},
            {0, 3, 1}, {0, 3, 2}, {0, 3, 3}, {0, 3, 4}, {5, 0, 1}, {5, 0, 2}};
        for (int[] o : others) {
            Twins.fails("another KIND", BUSY, "loadAs(" + o[0] + ", " + o[1] + ", " + o[2] + ")", 4, o[1], 0);
        }
        for (int kind = 0; kind < 5; kind++) {
            Twins.fails("no WAGON of any KIND", BUSY, "loadAs(0, 4, " + kind + ")", 1, 4, 0);
        }
    }

    /** Promise 11, "OUTSIDE: also the KIND", behind UNKNOWN and ahead of the FAILURES. */
    private static void loadAsOutsideKinds() {
        for (String kind : new String[] {"-1", "5", "MIN", "MAX"}) {
            Twins.refused("KIND", BUSY, "loadAs(0, 0, " + kind + ")", OUTSIDE);
            Twins.refused("KIND, no such n-th WAGON", BUSY, "loadAs(0, 4, " + kind + ")", OUTSIDE);
            Twins.refused("KIND, empty TRACK", BUSY, "loadAs(1, 0, " + kind + ")", OUTSIDE);
            Twins.refused("KIND and n", BUSY, "loadAs(0, 41, " + kind + ")", OUTSIDE);
            Twins.refused("KIND and n", BUSY, "loadAs(0, -1, " + kind + ")", OUTSIDE);
            Twins.refused("UNKNOWN before the KIND", BUSY, "loadAs(6, 0, " + kind + ")", UNKNOWN);
            Twins.refused("UNKNOWN before the KIND", BUSY, "loadAs(-1, 41, " + kind + ")", UNKNOWN);
        }
    }
}
