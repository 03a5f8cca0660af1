/** States that tests begin with, as calls written out for Yard. */
final class Scene {
    /**
     * TRACK 0: ENGINE 3, VAN 1, TANK 2, OPEN 0; TRACK 5: CRANE 4; OPEN 5 alone; VAN 6 and TANK 7 coupled.
     * The LOAD of WAGON w is 10 (w + 1). SIGNALS 55 at TRACK 0, 0 at TRACK 5.
     * RAKE 0 of KIND 0: 3, 1, 2; RAKE 1 of KIND 1: no places; RAKE 2: NONE; RAKE 3 of KIND 3: 4, then 11 NONE.
     * TABLE 0: 2 rows of 3 places, 9 at the last one; TABLE 1: NONE.
     */
    static final String BUSY =
        "wagon(0, 10); wagon(1, 20); wagon(2, 30); wagon(3, 40); wagon(4, 50); wagon(0, 60); wagon(1, 70);"
        + "wagon(2, 80); couple(3, 1); couple(1, 2); couple(2, 0); couple(6, 7); stand(0, 3); stand(5, 4);"
        + "signal(0, 55); signal(5, 0); rake(0, 0, 3); lay(0, 0); rake(1, 1, 0); rake(3, 3, 12); lay(3, 5);"
        + "table(0, 2, 3); add(0, 1, 2, 9);";

    /** 40 WAGONS of all kinds, none coupled; WAGON 39 stands FIRST on TRACK 5. */
    static final String FULL = wagons(40) + "stand(5, 39);";

    private Scene() { }

    /** WAGONS of kinds 0, 1, .., 4, 0, .. and LOADS 0, 1, .. . */
    static String wagons(int count) {
        StringBuilder calls = new StringBuilder();
        for (int w = 0; w < count; w++) {
            calls.append("wagon(").append(w % 5).append(", ").append(w).append(");");
        }
        return calls.toString();
    }

    /** WAGONS from .. to, coupled in this order. */
    static String coupled(int from, int to) {
        StringBuilder calls = new StringBuilder();
        for (int w = from; w < to; w++) {
            calls.append("couple(").append(w).append(", ").append(w + 1).append(");");
        }
        return calls.toString();
    }

    /** A TRACK with so many new WAGONS of one KIND and LOAD 1 each, in an object that has none. */
    static String train(int track, int count, int kind) {
        return ("wagon(" + kind + ", 1);").repeat(count) + coupled(0, count - 1) + "stand(" + track + ", 0);";
    }
}
