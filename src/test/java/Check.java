import java.util.Set;

/** Counts and prints the answers that are not the ones due. */
final class Check {
    private static int wrong;

    private Check() { }

    static void due(String call, int got, int want) {
        if (got != want) {
            wrong++;
            System.out.println(call + " answered " + got + ", due is " + want);
        }
    }

    static void same(String what, Set<String> got, Set<String> want) {
        if (!got.equals(want)) {
            wrong++;
            System.out.println(what + ": " + got + ", due is " + want);
        }
    }

    static void told(WagonSidings x, String after, int failure, int count, int signal) {
        due("told(0) after " + after, x.told(0), failure);
        due("told(1) after " + after, x.told(1), count);
        due("told(2) after " + after, x.told(2), signal);
    }

    static void end() {
        System.out.println(wrong == 0 ? "all answers are as due" : wrong + " answers are not as due");
        if (wrong != 0) {
            System.exit(1);
        }
    }

    /** Wagons of these kinds, of loads 10, 11, .., coupled in this order, the first one FIRST on a track. */
    static int train(WagonSidings x, int track, int... kinds) {
        int first = WagonSidings.NONE;
        int last = WagonSidings.NONE;
        for (int i = 0; i < kinds.length; i++) {
            int w = x.wagon(kinds[i], 10 + i);
            if (last == WagonSidings.NONE) {
                first = w;
            } else {
                due("couple of a train", x.couple(last, w), 1);
            }
            last = w;
        }
        due("stand of a train", x.stand(track, first), WagonSidings.NONE);
        return first;
    }
}
