/** Promises 1 to 5 and 21: a new object, wagon, couple, stand, signal, about. */
public final class YardTest {
    private static final int NONE = WagonSidings.NONE, UNKNOWN = WagonSidings.UNKNOWN,
        OUTSIDE = WagonSidings.OUTSIDE, STATE = WagonSidings.STATE, ROOM = WagonSidings.ROOM;

    public static void main(String[] args) {
        newObject();
        wagon();
        couple();
        coupleRefused();
        stand();
        standRefused();
        signal();
        about();
        Check.end();
    }

    private static void newObject() {
        WagonSidings x = new WagonSidings();
        Check.due("about(0, 0) of a new object", x.about(0, 0), UNKNOWN);
        Check.told(x, "nothing", 0, 0, 0);
        for (int track = 0; track < 6; track++) {
            Check.due("wagonAt of a new object", x.wagonAt(track, 0), -201);
            Check.due("stand NONE of a new object", x.stand(track, NONE), NONE);
            Check.due("signal NONE of a new object", x.signal(track, NONE), NONE);
        }
        for (int rake = 0; rake < 4; rake++) {
            Check.due("places of a new object", x.places(rake), -201);
            Check.due("onRake of a new object", x.onRake(rake, 0), NONE);
        }
        Check.due("add of a new object", x.add(0, 0, 0, 1), -201);
        Check.due("add of a new object", x.add(1, 0, 0, 1), -201);
    }

    private static void wagon() {
        WagonSidings x = new WagonSidings();
        Check.due("wagon(-1, 0)", x.wagon(-1, 0), OUTSIDE);
        Check.due("wagon(5, 0)", x.wagon(5, 0), OUTSIDE);
        for (int i = 0; i < 40; i++) {
            Check.due("wagon " + i, x.wagon(i % 5, -i), i);
        }
        Check.due("the 41st wagon", x.wagon(0, 0), ROOM);
        Check.due("the 41st wagon of no kind", x.wagon(5, 0), OUTSIDE);
        Check.due("the 41st wagon of kind MIN", x.wagon(Integer.MIN_VALUE, 0), OUTSIDE);
        Check.due("about(39, 1)", x.about(39, 1), -39);
        Check.due("about(40, 1)", x.about(40, 1), UNKNOWN);
    }

    private static void couple() {
        WagonSidings x = new WagonSidings();
        for (int i = 0; i < 4; i++) {
            x.wagon(0, i);
        }
        Check.due("couple(0, 1)", x.couple(0, 1), 1);
        Check.due("couple(2, 3)", x.couple(2, 3), 1);
        Check.due("couple(1, 2)", x.couple(1, 2), 1);
        Check.due("about(1, 2)", x.about(1, 2), 2);
        Check.due("stand(5, 0)", x.stand(5, 0), NONE);
        Check.due("wagonAt(5, 3)", x.wagonAt(5, 3), 3);
        Check.due("a last one FIRST on a track takes one behind", x.wagon(0, 9), 4);
        Check.due("couple(3, 4)", x.couple(3, 4), 1);
        Check.due("wagonAt(5, 4)", x.wagonAt(5, 4), 4);
    }

    private static void coupleRefused() {
        WagonSidings x = new WagonSidings();
        for (int i = 0; i < 5; i++) {
            x.wagon(0, i);
        }
        Check.due("couple(5, 0)", x.couple(5, 0), UNKNOWN);
        Check.due("couple(0, 5)", x.couple(0, 5), UNKNOWN);
        Check.due("couple(-1, 0)", x.couple(-1, 0), UNKNOWN);
        Check.due("couple(0, NONE)", x.couple(0, NONE), UNKNOWN);
        Check.due("couple(40, MAX)", x.couple(40, Integer.MAX_VALUE), UNKNOWN);
        Check.due("couple(0, 0)", x.couple(0, 0), STATE);
        x.couple(0, 1);
        Check.due("a has one behind", x.couple(0, 2), STATE);
        Check.due("b has one ahead", x.couple(2, 1), STATE);
        Check.due("a comes right behind b", x.couple(1, 0), STATE);
        x.couple(1, 2);
        Check.due("a comes far behind b", x.couple(2, 0), STATE);
        x.stand(0, 3);
        Check.due("b stands FIRST", x.couple(4, 3), STATE);
        Check.due("about(2, 2) after refusals", x.about(2, 2), NONE);
        Check.due("about(4, 2) after refusals", x.about(4, 2), NONE);
        x.stand(0, NONE);
        Check.due("b stands FIRST no more", x.couple(4, 3), 1);
    }

    private static void stand() {
        WagonSidings x = new WagonSidings();
        x.wagon(0, 0);
        x.wagon(1, 0);
        Check.due("stand(2, 0)", x.stand(2, 0), NONE);
        Check.due("about(0, 3)", x.about(0, 3), 2);
        Check.due("another one stands there", x.stand(2, 1), 0);
        Check.due("about(0, 3) of the one before", x.about(0, 3), NONE);
        Check.due("about(1, 3)", x.about(1, 3), 2);
        Check.due("stand elsewhere", x.stand(5, 0), NONE);
        Check.due("stand(2, NONE)", x.stand(2, NONE), 1);
        Check.due("stand(2, NONE) again", x.stand(2, NONE), NONE);
        Check.due("about(1, 3) after NONE", x.about(1, 3), NONE);
        Check.due("wagonAt(2, 0)", x.wagonAt(2, 0), -201);
    }

    private static void standRefused() {
        WagonSidings x = new WagonSidings();
        x.wagon(0, 0);
        x.wagon(1, 0);
        Check.due("stand(6, 0)", x.stand(6, 0), UNKNOWN);
        Check.due("stand(-1, NONE)", x.stand(-1, NONE), UNKNOWN);
        Check.due("stand(0, 2)", x.stand(0, 2), UNKNOWN);
        Check.due("stand(0, -2)", x.stand(0, -2), UNKNOWN);
        Check.due("stand(0, 40)", x.stand(0, 40), UNKNOWN);
        x.couple(0, 1);
        Check.due("one ahead", x.stand(0, 1), STATE);
        x.stand(0, 0);
        Check.due("FIRST on the same track", x.stand(0, 0), STATE);
        Check.due("FIRST on another track", x.stand(1, 0), STATE);
        Check.due("about(0, 3)", x.about(0, 3), 0);
        Check.due("wagonAt(1, 0)", x.wagonAt(1, 0), -201);
        Check.due("UNKNOWN before STATE", x.stand(6, 1), UNKNOWN);
        x.cut(0, 0);
        Check.due("none ahead after a cut", x.stand(0, 1), 0);
    }

    private static void signal() {
        WagonSidings x = new WagonSidings();
        Check.due("signal(0, 7)", x.signal(0, 7), NONE);
        Check.due("signal(0, 0)", x.signal(0, 0), 7);
        Check.due("signal(0, MAX)", x.signal(0, Integer.MAX_VALUE), 0);
        Check.due("signal(0, -2)", x.signal(0, -2), OUTSIDE);
        Check.due("signal(0, MIN)", x.signal(0, Integer.MIN_VALUE), OUTSIDE);
        Check.due("signal(6, -2)", x.signal(6, -2), UNKNOWN);
        Check.due("signal(-1, 1)", x.signal(-1, 1), UNKNOWN);
        Check.due("signal(0, NONE)", x.signal(0, NONE), Integer.MAX_VALUE);
        Check.due("signal(0, NONE) again", x.signal(0, NONE), NONE);
        x.signal(5, 3);
        Check.due("each track has its own", x.signal(4, 4), NONE);
        Check.due("signal(5, 5)", x.signal(5, 5), 3);
    }

    private static void about() {
        WagonSidings x = new WagonSidings();
        x.wagon(4, Integer.MIN_VALUE);
        x.wagon(2, 6);
        x.couple(0, 1);
        x.stand(3, 0);
        Check.due("about(0, 0)", x.about(0, 0), 4);
        Check.due("about(0, 1)", x.about(0, 1), Integer.MIN_VALUE);
        Check.due("about(0, 2)", x.about(0, 2), 1);
        Check.due("about(0, 3)", x.about(0, 3), 3);
        Check.due("about(1, 0)", x.about(1, 0), 2);
        Check.due("about(1, 2)", x.about(1, 2), NONE);
        Check.due("about(1, 3)", x.about(1, 3), NONE);
        Check.due("about(0, 4)", x.about(0, 4), UNKNOWN);
        Check.due("about(0, -1)", x.about(0, -1), UNKNOWN);
        Check.due("about(2, 0)", x.about(2, 0), UNKNOWN);
        Check.due("about(NONE, 0)", x.about(NONE, 0), UNKNOWN);
    }
}
