import java.util.Arrays;

/** Runs of 512 calls with mixed arguments, every answer compared with MachineYard's. */
public final class RandomRunsTest {
    private static final int RUNS = 400, CALLS = 512;

    // Most are asked more often than others, so that yards fill up and trains grow.
    private static final String[] NAMES = {
        "wagon", "wagon", "wagon", "couple", "couple", "couple", "couple", "stand", "stand", "signal",
        "wagonAt", "load", "cut", "hoot", "pull", "loadAs", "rake", "drop", "lay", "lay", "places", "loadOn",
        "table", "add", "add", "raise", "told", "told", "told", "about", "about", "onRake", "onRake"};

    private static final int[] EDGES = {
        -1, -2, 4, 5, 6, 7, 12, 13, 39, 40, 41, 42, Integer.MAX_VALUE, Integer.MIN_VALUE, 1 << 30};

    private static long seed;

    public static void main(String[] args) {
        for (int run = 0; run < RUNS; run++) {
            seed = run * 7919L + 1;
            compareRun(run);
        }
        Check.end();
    }

    private static int below(int bound) {
        // A fixed sequence, so that every run of the test is the same.
        seed = seed * 6364136223846793005L + 1442695040888963407L;
        return (int) ((seed >>> 33) % bound);
    }

    private static void compareRun(int run) {
        WagonSidings x = new WagonSidings();
        MachineYard model = new MachineYard();
        int wagons = 2 + below(45);
        for (int i = 0; i < CALLS; i++) {
            String name = NAMES[below(NAMES.length)];
            int[] a = arguments(name, wagons);
            String call = "run " + run + ", call " + i + ": " + name + Arrays.toString(a);
            Check.due(call, Calls.ask(x, name, a), model.call(name, a));
        }
    }

    private static int[] arguments(String name, int wagons) {
        int[] a = new int[4];
        for (int k = 0; k < a.length; k++) {
            a[k] = below(30) == 0 ? EDGES[below(EDGES.length)] : usual(name, k, wagons);
        }
        return a;
    }

    private static int usual(String name, int k, int wagons) {
        switch (name) {
            case "wagon": return k == 0 ? below(5) : below(2000) - 1000;
            case "couple": return below(wagons);
            case "stand": return k == 0 ? below(3) : below(wagons + 1) - 1;
            case "about": return below(k == 0 ? wagons : 4);
            case "signal": return k == 0 ? below(6) : below(100) - 1;
            case "rake": return k == 0 ? below(4) : k == 1 ? below(5) * below(2) : below(15) - 1;
            case "table": return k == 0 ? below(2) : k == 1 ? below(14) - 1 : below(7);
            case "add": return k == 0 ? below(2) : k == 1 ? below(12) : k == 2 ? below(6) : below(9) - 4;
            case "loadOn": case "onRake": return below(k == 0 ? 4 : 6);
            case "lay": return below(k == 0 ? 4 : 3);
            case "told": case "raise": return below(3);
            case "drop": case "places": return below(4);
            default: return k == 0 ? below(3) : k == 1 ? below(below(2) == 0 ? 2 : 7) : below(5);
        }
    }
}
