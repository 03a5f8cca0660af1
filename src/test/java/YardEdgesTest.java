import java.util.Map;

/** The boundary cases of "What it is" and of promises 1 to 5 and 21, sentence by sentence. */
public final class YardEdgesTest {
    private static final int NONE = WagonSidings.NONE, UNKNOWN = WagonSidings.UNKNOWN,
        OUTSIDE = WagonSidings.OUTSIDE, STATE = WagonSidings.STATE, ROOM = WagonSidings.ROOM;

    private static final String BUSY = Scene.BUSY, FULL = Scene.FULL;

    public static void main(String[] args) {
        lastPromisedCall();
        newObject();
        wagonNumbers();
        wagonKinds();
        wagonLoads();
        wagonAtFirst();
        wagonRoom();
        coupleTaken();
        coupleUnknown();
        coupleToOneThatHasOneBehind();
        coupleOneThatHasOneAhead();
        coupleOneThatStandsFirst();
        coupleToItself();
        coupleInARing();
        standTaken();
        standNone();
        standUnknown();
        standWithOneAhead();
        standTwice();
        signalTaken();
        signalRefused();
        aboutEdges();
        Check.end();
    }

    /** "An object is used for at most 512 calls." */
    private static void lastPromisedCall() {
        Yard x = new Yard("table(1, 12, 6)");
        while (x.calls() < 511) {
            x.ask("add(1, 11, 5, 1)");
        }
        Check.due("the 512th call", x.ask("add(1, 11, 5, 1)"), 511);
    }

    /** Promise 1, "No WAGONS"; "RAKES .. TABLES: NONE at first"; no FIRST, no SIGNAL, no FAILURE. */
    private static void newObject() {
        Yard x = new Yard();
        for (int what = 0; what < 3; what++) {
            Check.due("told(" + what + ") of a new object", x.ask("told(" + what + ")"), 0);
        }
        for (int track = 0; track < 6; track++) {
            Check.due("FIRST on a new TRACK", x.ask("stand(" + track + ", NONE)"), NONE);
        }
        for (Map.Entry<String, Integer> e : x.look().entrySet()) {
            Check.due(e.getKey() + " of a new object", e.getValue(), dueOfNew(e.getKey()));
        }
    }

    private static int dueOfNew(String key) {
        if (key.startsWith("new wagon")) {
            return key.charAt(key.length() - 1) - '0';
        }
        return key.startsWith("onRake") || key.startsWith("signal") ? NONE : -201;
    }

    /** "WAGONS, 40 at most, numbered from 0 on as they come." */
    private static void wagonNumbers() {
        Yard x = new Yard();
        Check.due("no WAGON 0 yet", x.ask("about(0, 0)"), UNKNOWN);
        for (int w = 0; w < 40; w++) {
            Check.due("wagon number " + w, x.ask("wagon(" + w % 5 + ", " + 3 * w + ")"), w);
            Check.due("its KIND", x.ask("about(" + w + ", 0)"), w % 5);
            Check.due("its LOAD", x.ask("about(" + w + ", 1)"), 3 * w);
            Check.due("none beyond it", x.ask("about(" + (w + 1) + ", 0)"), UNKNOWN);
        }
        Check.due("the 41st", x.ask("wagon(0, 0)"), ROOM);
        Check.due("a refused one uses no number up", new Yard("wagon(5, 0)").ask("wagon(0, 0)"), 0);
    }

    /** "a KIND (0 OPEN .. 4 CRANE)"; promise 2, "OUTSIDE". */
    private static void wagonKinds() {
        for (int kind = 0; kind < 5; kind++) {
            Yard x = new Yard("wagon(" + kind + ", 0)");
            Check.due("KIND " + kind, x.ask("about(0, 0)"), kind);
        }
        for (String kind : new String[] {"-1", "5", "MIN", "MAX"}) {
            Twins.refused("KIND", BUSY, "wagon(" + kind + ", 1)", OUTSIDE);
            Twins.refused("OUTSIDE before ROOM", FULL, "wagon(" + kind + ", 1)", OUTSIDE);
        }
    }

    /** "a LOAD (any number)". */
    private static void wagonLoads() {
        int[] loads = {Integer.MIN_VALUE, -201, -101, -1, 0, 1, Integer.MAX_VALUE};
        for (int load : loads) {
            Yard x = new Yard("wagon(0, " + load + "); stand(0, 0)");
            Check.due("about of LOAD " + load, x.ask("about(0, 1)"), load);
            Check.due("hoot of LOAD " + load, x.ask("hoot(0, 0)"), load);
        }
    }

    /** "the WAGON that is coupled BEHIND, or NONE (so at first)". */
    private static void wagonAtFirst() {
        Twins.changes("a new WAGON", "wagon(1, 6)", "wagon(4, 7)", 1,
            "about(1, 0)=4", "about(1, 1)=7", "about(1, 2)=-1", "about(1, 3)=-1", "1 has one ahead=0",
            "new wagon 0=2", "new wagon 1=3", "new wagon 2=4", "new wagon 3=5", "new wagon 4=6");
    }

    /** "40 at most"; promise 2, "ROOM". */
    private static void wagonRoom() {
        Check.due("the 40th", new Yard(Scene.wagons(39)).ask("wagon(4, MIN)"), 39);
        Twins.refused("ROOM", FULL, "wagon(0, 1)", ROOM);
        Twins.refused("ROOM", FULL, "wagon(4, MAX)", ROOM);
    }

    /** Promise 3, "WAGON b is coupled BEHIND a: 1". */
    private static void coupleTaken() {
        Twins.changes("two alone", BUSY + "wagon(0, 1);", "couple(5, 8)", 1,
            "about(5, 2)=8", "8 has one ahead=1");
        Twins.changes("b has one behind", BUSY, "couple(5, 6)", 1, "about(5, 2)=6", "6 has one ahead=1");
        Twins.changes("a has one ahead", BUSY, "couple(0, 5)", 1, "about(0, 2)=5", "5 has one ahead=1");
        Twins.changes("a stands FIRST", BUSY, "couple(4, 5)", 1, "about(4, 2)=5", "5 has one ahead=1");
        Twins.changes("the least and the greatest", Scene.wagons(40), "couple(0, 39)", 1,
            "about(0, 2)=39", "39 has one ahead=1");
        Twins.changes("the greatest and the least", Scene.wagons(40), "couple(39, 0)", 1,
            "about(39, 2)=0", "0 has one ahead=1");
    }

    /** Promise 3, "UNKNOWN", the first of several. */
    private static void coupleUnknown() {
        for (String w : new String[] {"NONE", "-2", "8", "39", "40", "MIN", "MAX"}) {
            Twins.refused("no WAGON a", BUSY, "couple(" + w + ", 5)", UNKNOWN);
            Twins.refused("no WAGON b", BUSY, "couple(5, " + w + ")", UNKNOWN);
            Twins.refused("neither a nor b", BUSY, "couple(" + w + ", " + w + ")", UNKNOWN);
            Twins.refused("UNKNOWN before STATE (a)", BUSY, "couple(3, " + w + ")", UNKNOWN);
            Twins.refused("UNKNOWN before STATE (b)", BUSY, "couple(" + w + ", 3)", UNKNOWN);
        }
        Twins.refused("no WAGON 40 of 40", FULL, "couple(0, 40)", UNKNOWN);
        Twins.refused("no WAGON 40 of 40", FULL, "couple(40, 0)", UNKNOWN);
    }

    /** Promise 3, "STATE: a has one BEHIND it". */
    private static void coupleToOneThatHasOneBehind() {
        Twins.refused("a has one behind", BUSY, "couple(6, 5)", STATE);
        Twins.refused("a has b behind", BUSY, "couple(6, 7)", STATE);
        Twins.refused("a, FIRST, has one behind", BUSY, "couple(3, 5)", STATE);
        Twins.refused("a, in the middle, has one behind", BUSY, "couple(1, 5)", STATE);
        Twins.changes("none any more", BUSY + "cut(0, 0);", "couple(3, 5)", 1,
            "about(3, 2)=5", "5 has one ahead=1");
    }

    /** Promise 3, "STATE: b has one ahead". */
    private static void coupleOneThatHasOneAhead() {
        Twins.refused("b has one ahead", BUSY, "couple(5, 7)", STATE);
        Twins.refused("b, last on a TRACK, has one ahead", BUSY, "couple(5, 0)", STATE);
        Twins.refused("b, in the middle, has one ahead", BUSY, "couple(5, 2)", STATE);
        Twins.changes("none any more", BUSY + "cut(0, 1);", "couple(5, 2)", 1,
            "about(5, 2)=2", "2 has one ahead=1");
    }

    /** Promise 3, "STATE: b .. stands FIRST". */
    private static void coupleOneThatStandsFirst() {
        Twins.refused("b stands FIRST on TRACK 0", BUSY, "couple(5, 3)", STATE);
        Twins.refused("b stands FIRST on TRACK 5", BUSY, "couple(5, 4)", STATE);
        Twins.refused("FIRST behind FIRST", BUSY, "couple(4, 3)", STATE);
        Twins.changes("not any more, as NONE stands there", BUSY + "stand(5, NONE);", "couple(5, 4)", 1,
            "about(5, 2)=4", "4 has one ahead=1");
        Twins.changes("not any more, as another one stands there", BUSY + "stand(0, 6);", "couple(5, 3)", 1,
            "about(5, 2)=3", "3 has one ahead=1");
    }

    /** Promise 3, "STATE: a is b". */
    private static void coupleToItself() {
        Twins.refused("a is b, alone", BUSY, "couple(5, 5)", STATE);
        Twins.refused("a is b, last of its row", BUSY, "couple(7, 7)", STATE);
        Twins.refused("a is b, WAGON 0", "wagon(0, 1);", "couple(0, 0)", STATE);
    }

    /** Promise 3, "STATE: a .. comes behind b". */
    private static void coupleInARing() {
        Twins.refused("a right behind b", BUSY, "couple(7, 6)", STATE);
        Twins.refused("a behind the one behind b", BUSY + "couple(7, 5);", "couple(5, 6)", STATE);
        Twins.refused("a 39 behind b", Scene.wagons(40) + Scene.coupled(0, 39), "couple(39, 0)", STATE);
        Twins.changes("a behind b no more", BUSY + "stand(1, 6); cut(1, 0); stand(1, NONE);", "couple(7, 6)", 1,
            "about(7, 2)=6", "6 has one ahead=1");
    }

    /** Promise 4, "A WAGON stands FIRST on a TRACK: which one stood there; NONE". */
    private static void standTaken() {
        Twins.changes("on an empty TRACK", BUSY, "stand(1, 5)", NONE, "about(5, 3)=1");
        Twins.changes("with one behind", BUSY, "stand(4, 6)", NONE, "about(6, 3)=4");
        Twins.changes("in place of another", BUSY, "stand(0, 5)", 3, "about(5, 3)=0", "about(3, 3)=-1");
        Twins.changes("on the greatest TRACK", BUSY, "stand(5, 6)", 4, "about(6, 3)=5", "about(4, 3)=-1");
        Twins.changes("the greatest WAGON", FULL + "stand(5, NONE);", "stand(0, 39)", NONE, "about(39, 3)=0");
        Twins.changes("in place of the greatest, WAGON 0", FULL, "stand(5, 0)", 39,
            "about(0, 3)=5", "about(39, 3)=-1");
        Twins.changes("in place of WAGON 0", FULL + "stand(2, 0);", "stand(2, 1)", 0,
            "about(1, 3)=2", "about(0, 3)=-1");
    }

    /** Promise 4, "(NONE: none)". */
    private static void standNone() {
        Twins.changes("NONE in place of one", BUSY, "stand(0, NONE)", 3, "about(3, 3)=-1");
        Twins.changes("NONE in place of one", BUSY, "stand(5, NONE)", 4, "about(4, 3)=-1");
        Twins.changes("NONE in place of NONE", BUSY, "stand(1, NONE)", NONE);
        Check.due("then none is there", new Yard(BUSY, "stand(0, NONE)").ask("wagonAt(0, 0)"), -201);
        Twins.changes("then it may stand again", BUSY + "stand(0, NONE);", "stand(0, 3)", NONE, "about(3, 3)=0");
    }

    /** Promise 4, "UNKNOWN", the first of several. */
    private static void standUnknown() {
        for (String track : new String[] {"-1", "6", "MIN", "MAX"}) {
            Twins.refused("no TRACK", BUSY, "stand(" + track + ", 5)", UNKNOWN);
            Twins.refused("no TRACK for NONE", BUSY, "stand(" + track + ", NONE)", UNKNOWN);
            Twins.refused("UNKNOWN before STATE: ahead", BUSY, "stand(" + track + ", 1)", UNKNOWN);
            Twins.refused("UNKNOWN before STATE: FIRST", BUSY, "stand(" + track + ", 3)", UNKNOWN);
        }
        for (String w : new String[] {"-2", "8", "39", "40", "MIN", "MAX"}) {
            Twins.refused("no WAGON", BUSY, "stand(0, " + w + ")", UNKNOWN);
            Twins.refused("no WAGON, empty TRACK", BUSY, "stand(1, " + w + ")", UNKNOWN);
        }
        Twins.refused("no WAGON 40 of 40", FULL, "stand(0, 40)", UNKNOWN);
    }

    /** Promise 4, "STATE: it has one ahead". */
    private static void standWithOneAhead() {
        Twins.refused("one ahead", BUSY, "stand(1, 7)", STATE);
        Twins.refused("one ahead on the same TRACK", BUSY, "stand(0, 1)", STATE);
        Twins.refused("last of another TRACK", BUSY, "stand(5, 0)", STATE);
        Twins.changes("none ahead any more", BUSY + "cut(0, 0);", "stand(0, 1)", 3,
            "about(1, 3)=0", "about(3, 3)=-1");
    }

    /** Promise 4, "STATE: it .. stands FIRST on a TRACK". */
    private static void standTwice() {
        Twins.refused("FIRST on this TRACK", BUSY, "stand(0, 3)", STATE);
        Twins.refused("FIRST on this TRACK", BUSY, "stand(5, 4)", STATE);
        Twins.refused("FIRST on another TRACK", BUSY, "stand(5, 3)", STATE);
        Twins.refused("FIRST on another TRACK", BUSY, "stand(1, 4)", STATE);
    }

    /** Promise 5, "A SIGNAL hangs at a TRACK (NONE: none any more): its number from before; NONE". */
    private static void signalTaken() {
        Twins.changes("the least", BUSY, "signal(0, 0)", 55, "signal(0, NONE)=0");
        Twins.changes("the greatest", BUSY, "signal(0, MAX)", 55, "signal(0, NONE)=2147483647");
        Twins.changes("the greatest TRACK, 0 before", BUSY, "signal(5, 1)", 0, "signal(5, NONE)=1");
        Twins.changes("NONE before", BUSY, "signal(1, 9)", NONE, "signal(1, NONE)=9");
        Twins.changes("none any more", BUSY, "signal(0, NONE)", 55, "signal(0, NONE)=-1");
        Twins.changes("NONE in place of 0", BUSY, "signal(5, NONE)", 0, "signal(5, NONE)=-1");
        Twins.changes("NONE in place of NONE", BUSY, "signal(1, NONE)", NONE);
        Twins.changes("the same again", BUSY, "signal(0, 55)", 55);
    }

    /** Promise 5, "UNKNOWN; OUTSIDE: below NONE". */
    private static void signalRefused() {
        for (String number : new String[] {"-2", "-55", "MIN"}) {
            Twins.refused("below NONE", BUSY, "signal(0, " + number + ")", OUTSIDE);
            Twins.refused("below NONE, where none hangs", BUSY, "signal(1, " + number + ")", OUTSIDE);
        }
        for (String track : new String[] {"-1", "6", "MIN", "MAX"}) {
            Twins.refused("no TRACK", BUSY, "signal(" + track + ", 3)", UNKNOWN);
            Twins.refused("no TRACK for NONE", BUSY, "signal(" + track + ", NONE)", UNKNOWN);
            Twins.refused("UNKNOWN before OUTSIDE", BUSY, "signal(" + track + ", -2)", UNKNOWN);
        }
    }

    /** Promise 21, "0 its KIND, 1 its LOAD, 2 .. BEHIND it (NONE), 3 the TRACK .. (NONE). UNKNOWN". */
    private static void aboutEdges() {
        int[][] due = {{3, 0, 3}, {3, 1, 40}, {3, 2, 1}, {3, 3, 0}, {4, 2, NONE}, {4, 3, 5}, {2, 2, 0},
            {0, 0, 0}, {0, 1, 10}, {0, 2, NONE}, {0, 3, NONE}, {7, 0, 2}, {7, 1, 80}, {7, 2, NONE}, {7, 3, NONE}};
        for (int[] d : due) {
            Twins.changes("about", BUSY, "about(" + d[0] + ", " + d[1] + ")", d[2]);
        }
        for (String what : new String[] {"-1", "4", "MIN", "MAX"}) {
            Twins.refused("no such what", BUSY, "about(0, " + what + ")", UNKNOWN);
            Twins.refused("neither", BUSY, "about(8, " + what + ")", UNKNOWN);
        }
        for (String w : new String[] {"NONE", "-2", "8", "39", "40", "MIN", "MAX"}) {
            for (int what = 0; what < 4; what++) {
                Twins.refused("no such WAGON", BUSY, "about(" + w + ", " + what + ")", UNKNOWN);
            }
        }
        Twins.refused("no WAGON 40 of 40", FULL, "about(40, 0)", UNKNOWN);
        Twins.changes("WAGON 39 of 40", FULL, "about(39, 3)", 5);
    }
}
