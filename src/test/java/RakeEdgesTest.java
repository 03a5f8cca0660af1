/** The boundary cases of promises 12 to 16 and 22, sentence by sentence. */
public final class RakeEdgesTest {
    private static final int NONE = WagonSidings.NONE, UNKNOWN = WagonSidings.UNKNOWN,
        OUTSIDE = WagonSidings.OUTSIDE;

    private static final String BUSY = Scene.BUSY;

    private static final String[] NO_RAKES = {"-1", "4", "MIN", "MAX"};

    public static void main(String[] args) {
        rakeTaken();
        rakeAllNone();
        rakeUnknown();
        rakeOutside();
        rakeBelowZero();
        dropEach();
        layUnknown();
        layWithoutARake();
        layWithoutAWagon();
        layFits();
        layWithoutAPlace();
        layOfAnotherKind();
        layKinds();
        layStaysAhead();
        layIndexBeforeStore();
        placesEdges();
        loadOnEdges();
        loadOnFailures();
        onRakeEdges();
        Check.end();
    }

    /** Promise 12, "A RAKE is a new one of a KIND, with n places: 1", for the least and the greatest. */
    private static void rakeTaken() {
        for (int rake = 0; rake < 4; rake++) {
            for (int kind = 0; kind < 5; kind++) {
                for (int n : new int[] {0, 1, 12}) {
                    Yard x = new Yard(BUSY);
                    String call = "rake(" + rake + ", " + kind + ", " + n + ")";
                    Check.due(call, x.ask(call), 1);
                    Check.due("places of " + call, x.ask("places(" + rake + ")"), n);
                }
            }
        }
        Twins.succeeds("the only change", BUSY, "rake(2, 4, 1)", 1, 0, "places(2)=1", "rake 2 takes 0=-205",
            "rake 2 takes 1=-205", "rake 2 takes 2=-205", "rake 2 takes 3=-205", "rake 2 takes 4=1");
    }

    /** Promise 12, "all NONE". */
    private static void rakeAllNone() {
        Twins.succeeds("a new one", BUSY, "rake(0, 0, 3)", 1, 0,
            "onRake(0, 0)=-1", "onRake(0, 1)=-1", "onRake(0, 2)=-1");
        Yard x = new Yard(Scene.train(0, 12, 0), "rake(1, 0, 12); lay(1, 0); rake(1, 0, 1); rake(1, 0, 12)");
        for (int i = 0; i < 12; i++) {
            Check.due("smaller, then greater, place " + i, x.ask("onRake(1, " + i + ")"), NONE);
            Check.due("smaller, then greater, place " + i, x.ask("loadOn(1, " + i + ")"), -201);
        }
    }

    /** Promise 12, "UNKNOWN", ahead of OUTSIDE and FAILURE 2. */
    private static void rakeUnknown() {
        for (String rake : NO_RAKES) {
            Twins.refused("no RAKE", BUSY, "rake(" + rake + ", 0, 1)", UNKNOWN);
            Twins.refused("UNKNOWN before OUTSIDE", BUSY, "rake(" + rake + ", 5, 13)", UNKNOWN);
            Twins.refused("UNKNOWN before FAILURE 2", BUSY, "rake(" + rake + ", 0, -1)", UNKNOWN);
        }
    }

    /** Promise 12, "OUTSIDE: the KIND, n above 12", ahead of FAILURE 2. */
    private static void rakeOutside() {
        for (String kind : new String[] {"-1", "5", "MIN", "MAX"}) {
            for (String n : new String[] {"0", "12", "13", "-1", "MIN", "MAX"}) {
                Twins.refused("KIND", BUSY, "rake(0, " + kind + ", " + n + ")", OUTSIDE);
                Twins.refused("KIND of one that is NONE", BUSY, "rake(2, " + kind + ", " + n + ")", OUTSIDE);
            }
        }
        for (int kind = 0; kind < 5; kind++) {
            Twins.refused("n above 12", BUSY, "rake(0, " + kind + ", 13)", OUTSIDE);
            Twins.refused("n above 12", BUSY, "rake(2, " + kind + ", MAX)", OUTSIDE);
        }
    }

    /** Promise 12, "FAILURE: 2 (it is as it was)"; "2 SIZE: below 0". */
    private static void rakeBelowZero() {
        for (int kind = 0; kind < 5; kind++) {
            for (String n : new String[] {"-1", "-12", "MIN"}) {
                for (int rake = 0; rake < 4; rake++) {
                    Twins.fails("n below 0", BUSY, "rake(" + rake + ", " + kind + ", " + n + ")", 2, 0, 0);
                }
            }
        }
    }

    /** Promise 13, "A RAKE is NONE: 1. UNKNOWN". */
    private static void dropEach() {
        Twins.changes("the least", BUSY, "drop(0)", 1, "places(0)=-201", "onRake(0, 0)=-1", "onRake(0, 1)=-1",
            "onRake(0, 2)=-1", "rake 0 takes 0=-201", "rake 0 takes 1=-201", "rake 0 takes 2=-201",
            "rake 0 takes 3=-201", "rake 0 takes 4=-201");
        Twins.changes("the greatest", BUSY, "drop(3)", 1, "places(3)=-201", "onRake(3, 0)=-1",
            "rake 3 takes 0=-201", "rake 3 takes 1=-201", "rake 3 takes 2=-201", "rake 3 takes 3=-201",
            "rake 3 takes 4=-201");
        Twins.changes("one that is NONE", BUSY, "drop(2)", 1);
        for (String rake : NO_RAKES) {
            Twins.refused("no RAKE", BUSY, "drop(" + rake + ")", UNKNOWN);
        }
        Yard x = new Yard(BUSY, "drop(0); rake(0, 0, 3)");
        Check.due("nothing comes back", x.ask("onRake(0, 0)"), NONE);
    }

    /** Promise 14, "UNKNOWN", ahead of the FAILURES. */
    private static void layUnknown() {
        for (String rake : NO_RAKES) {
            Twins.refused("no RAKE", BUSY, "lay(" + rake + ", 0)", UNKNOWN);
            Twins.refused("no RAKE, no WAGON", BUSY, "lay(" + rake + ", 1)", UNKNOWN);
            Twins.refused("no RAKE, no TRACK", BUSY, "lay(" + rake + ", 6)", UNKNOWN);
        }
        for (String track : new String[] {"-1", "6", "MIN", "MAX"}) {
            Twins.refused("no TRACK", BUSY, "lay(0, " + track + ")", UNKNOWN);
            Twins.refused("no TRACK, the RAKE is NONE", BUSY, "lay(2, " + track + ")", UNKNOWN);
        }
    }

    /** Promise 14, "FAILURES: 1": the RAKE is NONE. */
    private static void layWithoutARake() {
        Twins.fails("never made", BUSY, "lay(2, 0)", 1, 0, 0);
        Twins.fails("never made, no WAGON", BUSY, "lay(2, 1)", 1, 0, 0);
        Twins.fails("dropped", BUSY + "drop(0);", "lay(0, 0)", 1, 0, 0);
        Twins.fails("not made, as n was below 0", BUSY + "rake(2, 0, -1);", "lay(2, 5)", 1, 0, 0);
    }

    /** Promise 14, "1 (also without a WAGON)". */
    private static void layWithoutAWagon() {
        Twins.fails("an empty TRACK", BUSY, "lay(0, 1)", 1, 0, 0);
        Twins.fails("an empty TRACK, no places", BUSY, "lay(1, 1)", 1, 0, 0);
        Twins.fails("an empty TRACK, 12 places", BUSY, "lay(3, 4)", 1, 0, 0);
        Twins.fails("an emptied TRACK", BUSY + "stand(5, NONE);", "lay(3, 5)", 1, 0, 0);
        Twins.fails("a new object", "rake(0, 0, 1);", "lay(0, 0)", 1, 0, 0);
    }

    /** Promise 14, "The WAGONS of a TRACK are laid at the places of a RAKE, one by one, from 0 on: how many". */
    private static void layFits() {
        Twins.succeeds("one on the least", BUSY, "lay(0, 5)", 1, 1, "onRake(0, 0)=4");
        Twins.succeeds("the same once more", BUSY, "lay(3, 5)", 1, 1);
        Twins.succeeds("places beyond stay NONE", BUSY + "rake(0, 0, 12);", "lay(0, 0)", 4, 4,
            "onRake(0, 0)=3", "onRake(0, 1)=1", "onRake(0, 2)=2", "onRake(0, 3)=0");
        Twins.succeeds("just as many places", BUSY + "rake(0, 0, 4);", "lay(0, 0)", 4, 4,
            "onRake(0, 0)=3", "onRake(0, 1)=1", "onRake(0, 2)=2", "onRake(0, 3)=0");
        for (int count : new int[] {1, 2, 11, 12}) {
            Yard x = new Yard(Scene.train(0, count, 0), "rake(3, 0, " + count + ")");
            Check.due(count + " on as many places", x.ask("lay(3, 0)"), count);
            Check.due("told(1)", x.ask("told(1)"), count);
            Check.due("the last one", x.ask("onRake(3, " + (count - 1) + ")"), count - 1);
        }
    }

    /** Promise 14, "FAILURES: .. 3": "no such place". */
    private static void layWithoutAPlace() {
        for (int count : new int[] {1, 2, 12, 13}) {
            Yard x = new Yard(Scene.train(0, count, 0), "rake(3, 0, " + (count - 1) + ")");
            Check.due("one WAGON more than places, " + count, x.ask("lay(3, 0)"), -203);
            Check.due("told(0)", x.ask("told(0)"), 3);
            Check.due("told(1)", x.ask("told(1)"), count - 1);
            for (int i = 0; i < 12; i++) {
                Check.due("place " + i, x.ask("onRake(3, " + i + ")"), i < count - 1 ? i : NONE);
            }
        }
        Yard x = new Yard(Scene.train(5, 40, 0), "rake(0, 0, 12)");
        Check.due("40 on 12 places", x.ask("lay(0, 5)"), -203);
        Check.due("told(1) of 40 on 12", x.ask("told(1)"), 12);
        Twins.fails("no places", BUSY + "rake(2, 0, 0);", "lay(2, 0)", 3, 0, 0);
    }

    /** Promise 14, "FAILURES: .. 5"; "5 STORE: the RAKE does not take it". */
    private static void layOfAnotherKind() {
        String vans = "wagon(1, 1); wagon(2, 2); wagon(1, 3); couple(0, 1); couple(1, 2); stand(0, 0); rake(0, 1, 9);";
        Twins.succeeds("none is refused", vans, "lay(0, 0)", 3, 3,
            "onRake(0, 0)=0", "onRake(0, 1)=1", "onRake(0, 2)=2");
        Twins.fails("the FIRST is refused", vans + "rake(0, 3, 9);", "lay(0, 0)", 5, 0, 0);
        Twins.fails("the FIRST is refused", vans + "rake(0, 2, 9);", "lay(0, 0)", 5, 0, 0);
        Twins.failsAndChanges("the last is refused", vans + "wagon(3, 4); couple(2, 3);", "lay(0, 0)", 5, 3, 0,
            "onRake(0, 0)=0", "onRake(0, 1)=1", "onRake(0, 2)=2");
        Twins.failsAndChanges("the second is refused, though a third one is not",
            BUSY + "rake(2, 3, 9); couple(4, 5);", "lay(2, 5)", 5, 1, 0, "onRake(2, 0)=4");
    }

    /** "one of KIND 0 takes all WAGONS, of another one what is of it". */
    private static void layKinds() {
        int[][] taken = {{0, 1, 2, 3, 4}, {1, 2}, {2}, {3, 4}, {4}};
        for (int of = 0; of < 5; of++) {
            for (int kind = 0; kind < 5; kind++) {
                boolean takes = false;
                for (int k : taken[of]) {
                    takes |= k == kind;
                }
                String setup = "wagon(" + kind + ", 1); stand(0, 0); rake(0, " + of + ", 1);";
                String sentence = "KIND " + kind + " on a RAKE of KIND " + of;
                if (takes) {
                    Twins.succeeds(sentence, setup, "lay(0, 0)", 1, 1, "onRake(0, 0)=0");
                } else {
                    Twins.fails(sentence, setup, "lay(0, 0)", 5, 0, 0);
                }
            }
        }
    }

    /** Promise 14, "what was laid ahead stays"; what lies at the places behind is not touched. */
    private static void layStaysAhead() {
        String setup = BUSY + "couple(4, 5); couple(5, 6);";
        Twins.failsAndChanges("by INDEX", setup + "rake(0, 0, 2);", "lay(0, 5)", 3, 2, 0,
            "onRake(0, 0)=4", "onRake(0, 1)=5");
        Twins.failsAndChanges("by STORE", setup + "rake(0, 3, 2);", "lay(0, 5)", 5, 1, 0, "onRake(0, 0)=4");
        String rake = "rake(0, 3, 3); wagon(3, 1); wagon(3, 2); couple(8, 9); stand(1, 8); lay(0, 1);";
        Twins.failsAndChanges("the place behind stays, too", setup + rake, "lay(0, 5)", 5, 1, 0, "onRake(0, 0)=4");
        Twins.succeeds("places beyond the last stay, too", BUSY, "lay(0, 5)", 1, 1, "onRake(0, 0)=4");
    }

    /** FAILURES in the order in which the WAGONS come: a WAGON without a place is not asked for its KIND. */
    private static void layIndexBeforeStore() {
        Twins.fails("no place, and of another KIND", BUSY, "lay(1, 0)", 3, 0, 0);
        Twins.failsAndChanges("the second has neither", BUSY + "rake(2, 3, 1);", "lay(2, 0)", 3, 1, 0,
            "onRake(2, 0)=3");
        Twins.failsAndChanges("STORE ahead of the last place", BUSY + "rake(2, 3, 2);", "lay(2, 0)", 5, 1, 0,
            "onRake(2, 0)=3");
    }

    /** Promise 15, "How many places a RAKE has. UNKNOWN. FAILURE: 1". */
    private static void placesEdges() {
        Twins.succeeds("no places", BUSY, "places(1)", 0, 0);
        Twins.succeeds("the least RAKE", BUSY, "places(0)", 3, 0);
        Twins.succeeds("the greatest RAKE, the most places", BUSY, "places(3)", 12, 0);
        Twins.fails("never made", BUSY, "places(2)", 1, 0, 0);
        Twins.fails("dropped", BUSY + "drop(1);", "places(1)", 1, 0, 0);
        for (String rake : NO_RAKES) {
            Twins.refused("no RAKE", BUSY, "places(" + rake + ")", UNKNOWN);
        }
    }

    /** Promise 16, "The LOAD of the WAGON at place i (any number) of a RAKE. UNKNOWN". */
    private static void loadOnEdges() {
        Twins.succeeds("the least place", BUSY, "loadOn(0, 0)", 40, 0);
        Twins.succeeds("the last place", BUSY, "loadOn(0, 2)", 30, 0);
        Twins.succeeds("the greatest RAKE", BUSY, "loadOn(3, 0)", 50, 0);
        Twins.succeeds("place 11 of 12", Scene.train(0, 12, 0) + "rake(0, 0, 12); lay(0, 0);", "loadOn(0, 11)", 1, 0);
        Twins.succeeds("the LOAD of now", BUSY + "load(0, 2, MIN);", "loadOn(0, 2)", Integer.MIN_VALUE, 0);
        Twins.succeeds("a WAGON that left the TRACK", BUSY + "cut(0, 1);", "loadOn(0, 2)", 30, 0);
        for (String rake : NO_RAKES) {
            Twins.refused("no RAKE", BUSY, "loadOn(" + rake + ", 0)", UNKNOWN);
            Twins.refused("no RAKE, no place", BUSY, "loadOn(" + rake + ", -1)", UNKNOWN);
        }
    }

    /** Promise 16, "FAILURES: 1 (the RAKE), 3, 1 (no WAGON)". */
    private static void loadOnFailures() {
        for (String i : new String[] {"0", "-1", "12", "MIN", "MAX"}) {
            Twins.fails("the RAKE is NONE", BUSY, "loadOn(2, " + i + ")", 1, 0, 0);
            Twins.fails("the RAKE has no places", BUSY, "loadOn(1, " + i + ")", 3, 0, 0);
        }
        for (String i : new String[] {"-1", "3", "11", "12", "MIN", "MAX"}) {
            Twins.fails("no such place of 3", BUSY, "loadOn(0, " + i + ")", 3, 0, 0);
        }
        for (String i : new String[] {"-1", "12", "MIN", "MAX"}) {
            Twins.fails("no such place of 12", BUSY, "loadOn(3, " + i + ")", 3, 0, 0);
        }
        for (int i = 1; i < 12; i++) {
            Twins.fails("no WAGON", BUSY, "loadOn(3, " + i + ")", 1, 0, 0);
        }
        Twins.fails("a dropped RAKE", BUSY + "drop(0);", "loadOn(0, 0)", 1, 0, 0);
    }

    /** Promise 22, "The WAGON at place i of a RAKE; NONE: there is none, no such place, no RAKE. UNKNOWN". */
    private static void onRakeEdges() {
        int[] due = {3, 1, 2};
        for (int i = 0; i < due.length; i++) {
            Twins.changes("a WAGON", BUSY, "onRake(0, " + i + ")", due[i]);
        }
        Twins.changes("WAGON 0", BUSY + "rake(2, 0, 12); lay(2, 0);", "onRake(2, 3)", 0);
        Twins.changes("the greatest RAKE", BUSY, "onRake(3, 0)", 4);
        Twins.changes("there is none", BUSY, "onRake(3, 1)", NONE);
        Twins.changes("there is none", BUSY, "onRake(3, 11)", NONE);
        for (String i : new String[] {"-1", "3", "12", "MIN", "MAX"}) {
            Twins.changes("no such place", BUSY, "onRake(0, " + i + ")", NONE);
            Twins.changes("no places at all", BUSY, "onRake(1, " + i + ")", NONE);
            Twins.changes("no RAKE", BUSY, "onRake(2, " + i + ")", NONE);
        }
        Twins.changes("no places at all", BUSY, "onRake(1, 0)", NONE);
        Twins.changes("no RAKE", BUSY, "onRake(2, 0)", NONE);
        Twins.changes("no RAKE any more", BUSY + "drop(0);", "onRake(0, 0)", NONE);
        for (String rake : NO_RAKES) {
            Twins.refused("UNKNOWN", BUSY, "onRake(" + rake + ", 0)", UNKNOWN);
            Twins.refused("UNKNOWN, no such place", BUSY, "onRake(" + rake + ", -1)", UNKNOWN);
        }
    }
}
