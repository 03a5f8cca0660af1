/** Promises 12 to 16 and 22: rake, drop, lay, places, loadOn, onRake. */
public final class RakeTest {
    private static final int NONE = WagonSidings.NONE, UNKNOWN = WagonSidings.UNKNOWN,
        OUTSIDE = WagonSidings.OUTSIDE;

    public static void main(String[] args) {
        rake();
        rakeRefused();
        drop();
        lay();
        layFails();
        layWithoutWagon();
        layTakesKinds();
        places();
        loadOn();
        onRake();
        Check.end();
    }

    private static void rake() {
        WagonSidings x = new WagonSidings();
        Check.train(x, 0, 1, 2);
        Check.due("rake(3, 4, 12)", x.rake(3, 4, 12), 1);
        Check.due("places(3)", x.places(3), 12);
        Check.due("rake(0, 1, 2)", x.rake(0, 1, 2), 1);
        x.lay(0, 0);
        Check.due("rake(0, 1, -1)", x.rake(0, 1, -1), -202);
        Check.told(x, "rake(0, 1, -1)", 2, 0, 0);
        Check.due("it is as it was", x.places(0), 2);
        Check.due("it is as it was", x.onRake(0, 1), 1);
        Check.due("rake(0, 0, MIN)", x.rake(0, 0, Integer.MIN_VALUE), -202);
        Check.due("rake(0, 1, 2) anew", x.rake(0, 1, 2), 1);
        Check.told(x, "rake(0, 1, 2)", 0, 0, 0);
        Check.due("all NONE", x.onRake(0, 0), NONE);
        Check.due("all NONE", x.onRake(0, 1), NONE);
        Check.due("rake(0, 3, 0)", x.rake(0, 3, 0), 1);
        Check.due("places of 0", x.places(0), 0);
        Check.due("a failed rake of none leaves NONE", x.rake(2, 0, -5), -202);
        Check.due("places(2)", x.places(2), -201);
    }

    private static void rakeRefused() {
        WagonSidings x = new WagonSidings();
        Check.due("rake(4, 0, 1)", x.rake(4, 0, 1), UNKNOWN);
        Check.due("rake(-1, 9, 99)", x.rake(-1, 9, 99), UNKNOWN);
        Check.due("rake(0, 5, 1)", x.rake(0, 5, 1), OUTSIDE);
        Check.due("rake(0, -1, 1)", x.rake(0, -1, 1), OUTSIDE);
        Check.due("rake(0, 0, 13)", x.rake(0, 0, 13), OUTSIDE);
        Check.due("rake(0, 5, -1)", x.rake(0, 5, -1), OUTSIDE);
        Check.told(x, "refused rakes", 0, 0, 0);
        Check.due("places(0)", x.places(0), -201);
    }

    private static void drop() {
        WagonSidings x = new WagonSidings();
        Check.train(x, 0, 0, 0);
        x.rake(1, 0, 3);
        x.lay(1, 0);
        Check.due("drop(1)", x.drop(1), 1);
        Check.told(x, "lay, drop", 0, 2, 0);
        Check.due("places(1)", x.places(1), -201);
        Check.due("onRake(1, 0)", x.onRake(1, 0), NONE);
        Check.due("drop(1) again", x.drop(1), 1);
        Check.due("drop(4)", x.drop(4), UNKNOWN);
        Check.due("drop(-1)", x.drop(-1), UNKNOWN);
        x.rake(1, 0, 3);
        Check.due("nothing comes back", x.onRake(1, 0), NONE);
    }

    private static void lay() {
        WagonSidings x = new WagonSidings();
        Check.train(x, 0, 0, 1, 3);
        Check.train(x, 1, 4);
        x.rake(0, 0, 4);
        Check.due("lay(0, 0)", x.lay(0, 0), 3);
        Check.told(x, "lay(0, 0)", 0, 3, 0);
        Check.due("onRake(0, 2)", x.onRake(0, 2), 2);
        Check.due("onRake(0, 3)", x.onRake(0, 3), NONE);
        Check.due("lay(0, 1) over it", x.lay(0, 1), 1);
        Check.told(x, "lay(0, 1)", 0, 1, 0);
        Check.due("onRake(0, 0)", x.onRake(0, 0), 3);
        Check.due("onRake(0, 1)", x.onRake(0, 1), 1);
        Check.due("lay stays on the track", x.wagonAt(0, 2), 2);
    }

    private static void layFails() {
        WagonSidings x = new WagonSidings();
        Check.train(x, 0, 1, 2, 0, 1);
        Check.due("lay(4, 0)", x.lay(4, 0), UNKNOWN);
        Check.due("lay(0, 6)", x.lay(0, 6), UNKNOWN);
        Check.due("lay(-1, -1)", x.lay(-1, -1), UNKNOWN);
        Check.due("no rake", x.lay(0, 0), -201);
        Check.told(x, "lay without a rake", 1, 0, 0);
        Check.due("no rake, no wagon", x.lay(0, 1), -201);
        x.rake(0, 0, 3);
        Check.due("no place for the fourth", x.lay(0, 0), -203);
        Check.told(x, "lay on three places", 3, 3, 0);
        Check.due("laid ahead", x.onRake(0, 2), 2);
        x.rake(1, 1, 12);
        Check.due("an OPEN is refused", x.lay(1, 0), -205);
        Check.told(x, "lay of an OPEN", 5, 2, 0);
        Check.due("laid ahead", x.onRake(1, 1), 1);
        Check.due("not laid", x.onRake(1, 2), NONE);
        x.rake(1, 1, 2);
        Check.due("INDEX before STORE", x.lay(1, 0), -203);
        x.rake(2, 0, 0);
        Check.due("no places", x.lay(2, 0), -203);
        Check.told(x, "lay on no places", 3, 0, 0);
    }

    private static void layWithoutWagon() {
        for (int places = 0; places <= 12; places++) {
            for (int kind = 0; kind < 5; kind++) {
                WagonSidings x = new WagonSidings();
                x.rake(0, kind, places);
                Check.due("no wagon, rake(0, " + kind + ", " + places + ")", x.lay(0, 5), -201);
                Check.told(x, "lay without a wagon", 1, 0, 0);
            }
        }
        WagonSidings x = new WagonSidings();
        Check.train(x, 0, 0, 1);
        x.rake(0, 0, 3);
        x.lay(0, 0);
        Check.due("no wagon on another track", x.lay(0, 1), -201);
        Check.told(x, "lay(0, 1)", 1, 0, 0);
        Check.due("what lies there stays", x.onRake(0, 0), 0);
        Check.due("what lies there stays", x.onRake(0, 1), 1);
        x.stand(0, NONE);
        Check.due("no wagon any more", x.lay(0, 0), -201);
        Check.due("what lies there stays", x.loadOn(0, 1), 11);
        x.stand(1, 0);
        Check.due("the wagon on the other track", x.lay(0, 1), 2);
        Check.due("no track before no wagon", x.lay(0, 6), UNKNOWN);
    }

    private static void layTakesKinds() {
        boolean[][] takes = {
            {true, true, true, true, true},
            {false, true, true, false, false},
            {false, false, true, false, false},
            {false, false, false, true, true},
            {false, false, false, false, true}};
        for (int of = 0; of < 5; of++) {
            for (int kind = 0; kind < 5; kind++) {
                WagonSidings x = new WagonSidings();
                Check.train(x, 0, kind);
                x.rake(0, of, 1);
                Check.due("kind " + kind + " on a rake of " + of, x.lay(0, 0), takes[of][kind] ? 1 : -205);
                Check.due("onRake of it", x.onRake(0, 0), takes[of][kind] ? 0 : NONE);
            }
        }
    }

    private static void places() {
        WagonSidings x = new WagonSidings();
        Check.due("places(4)", x.places(4), UNKNOWN);
        Check.due("places(-1)", x.places(-1), UNKNOWN);
        Check.due("places(3)", x.places(3), -201);
        Check.told(x, "places(3)", 1, 0, 0);
        x.rake(3, 0, 7);
        Check.due("places(3)", x.places(3), 7);
        Check.told(x, "places(3)", 0, 0, 0);
    }

    private static void loadOn() {
        WagonSidings x = new WagonSidings();
        Check.train(x, 0, 0, 1);
        Check.due("loadOn(4, 0)", x.loadOn(4, 0), UNKNOWN);
        Check.due("loadOn(-1, 0)", x.loadOn(-1, 0), UNKNOWN);
        Check.due("no rake before no place", x.loadOn(0, -1), -201);
        Check.told(x, "loadOn without a rake", 1, 0, 0);
        x.rake(0, 0, 3);
        x.lay(0, 0);
        Check.due("loadOn(0, 1)", x.loadOn(0, 1), 11);
        Check.told(x, "loadOn(0, 1)", 0, 0, 0);
        x.load(0, 1, -7);
        Check.due("the load of now", x.loadOn(0, 1), -7);
        Check.due("no wagon", x.loadOn(0, 2), -201);
        Check.told(x, "loadOn(0, 2)", 1, 0, 0);
        Check.due("loadOn(0, 3)", x.loadOn(0, 3), -203);
        Check.told(x, "loadOn(0, 3)", 3, 0, 0);
        Check.due("loadOn(0, -1)", x.loadOn(0, -1), -203);
        Check.due("loadOn(0, MAX)", x.loadOn(0, Integer.MAX_VALUE), -203);
        Check.due("loadOn(0, MIN)", x.loadOn(0, Integer.MIN_VALUE), -203);
    }

    private static void onRake() {
        WagonSidings x = new WagonSidings();
        Check.train(x, 0, 0, 1);
        Check.due("onRake(4, 0)", x.onRake(4, 0), UNKNOWN);
        Check.due("onRake(-1, 0)", x.onRake(-1, 0), UNKNOWN);
        Check.due("no rake", x.onRake(0, 0), NONE);
        x.rake(0, 0, 3);
        x.lay(0, 0);
        Check.due("onRake(0, 0)", x.onRake(0, 0), 0);
        Check.due("onRake(0, 1)", x.onRake(0, 1), 1);
        Check.due("none there", x.onRake(0, 2), NONE);
        Check.due("onRake(0, 3)", x.onRake(0, 3), NONE);
        Check.due("onRake(0, -1)", x.onRake(0, -1), NONE);
        Check.due("onRake(0, MAX)", x.onRake(0, Integer.MAX_VALUE), NONE);
        Check.told(x, "lay, onRake", 0, 2, 0);
    }
}
