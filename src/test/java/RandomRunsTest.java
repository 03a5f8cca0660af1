import java.util.Arrays;

/** Runs of 512 calls with mixed arguments, every answer compared with MachineYard's. */
public final class RandomRunsTest {
    private static final int RUNS = 600, CALLS = 512;

    // Some are asked more often than others, so that trains grow and rakes fill up.
    private static final String[] NAMES = {
        "wagon", "couple", "couple", "couple", "stand", "stand", "signal", "wagonAt", "load", "load", "hoot",
        "hoot", "pull", "pull", "loadAs", "loadAs", "lay", "lay", "lay", "places", "loadOn", "loadOn", "add",
        "add", "add", "raise", "told", "told", "told", "about", "about", "onRake", "onRake"};

    // What these undo takes many calls to build up again.
    private static final String[] RARE = {"cut", "rake", "drop", "table"};

    private static final int[] EDGES = {
        -1, -2, 2, 3, 4, 5, 6, 7, 12, 13, 39, 40, 41, 42, Integer.MAX_VALUE, Integer.MIN_VALUE, 1 << 30};

    private final String run;
    private final WagonSidings x = new WagonSidings();
    private final MachineYard model = new MachineYard();
    private long seed;
    private int calls;

    // How many wagons, tracks and kinds the calls are mostly about, how long the trains are at first, and
    // how seldom anything is undone.
    private final int wagons, tracks, kinds, length, rarity;

    private RandomRunsTest(int run) {
        this.run = "run " + run;
        seed = run * 7919L + 1;
        wagons = 1 + below(45);
        tracks = 1 + below(6);
        kinds = 1 + below(5);
        length = 1 + below(30);
        rarity = 3 + below(40);
    }

    public static void main(String[] args) {
        for (int run = 0; run < RUNS; run++) {
            new RandomRunsTest(run).compare();
        }
        Check.end();
    }

    private int below(int bound) {
        // A fixed sequence, so that every run of the test is the same.
        seed = seed * 6364136223846793005L + 1442695040888963407L;
        return (int) ((seed >>> 33) % bound);
    }

    private void compare() {
        layOut();
        while (calls < CALLS) {
            String name = below(rarity) == 0 ? RARE[below(RARE.length)] : NAMES[below(NAMES.length)];
            ask(name, arguments(name));
        }
    }

    private void layOut() {
        for (int w = 0; w < wagons - 1; w++) {
            ask("wagon", below(kinds), below(2000) - 1000);
            boolean opensATrain = w == 0 || below(length) == 0;
            ask(opensATrain ? "stand" : "couple", opensATrain ? below(tracks) : w - 1, w);
        }
        for (int i = 0; i < 6; i++) {
            ask("rake", below(4), below(5) * below(2), below(13));
            ask("table", below(2), below(13), below(7));
        }
    }

    private void ask(String name, int... a) {
        calls++;
        String call = run + ", call " + calls + ": " + name + Arrays.toString(a);
        Check.due(call, Calls.ask(x, name, a), model.call(name, a));
    }

    private int[] arguments(String name) {
        int[] a = new int[4];
        for (int k = 0; k < a.length; k++) {
            a[k] = below(40) == 0 ? EDGES[below(EDGES.length)] : usual(name, k);
        }
        return a;
    }

    private int usual(String name, int k) {
        switch (name) {
            case "wagon": return k == 0 ? below(kinds) : below(2000) - 1000;
            case "couple": return below(wagons);
            case "stand": return k == 0 ? below(tracks) : below(wagons + 1) - 1;
            case "about": return below(k == 0 ? wagons : 4);
            case "signal": return k == 0 ? below(tracks) : below(100) - 1;
            case "rake": return k == 0 ? below(4) : k == 1 ? below(kinds) * below(2) : below(15) - 1;
            case "table": return k == 0 ? below(2) : k == 1 ? below(14) - 1 : below(7);
            case "add": return k == 0 ? below(2) : k == 1 ? below(8) : k == 2 ? below(4) : below(9) - 4;
            case "loadOn": case "onRake": return below(k == 0 ? 4 : below(2) == 0 ? 3 : 13);
            case "lay": return below(k == 0 ? 4 : tracks);
            case "told": return below(3);
            case "raise": return below(tracks);
            case "drop": case "places": return below(4);
            default: return k == 0 ? below(tracks) : k == 1 ? below(below(2) == 0 ? 2 : length + 2) : below(5);
        }
    }
}
