import java.util.Map;
import java.util.Set;
import java.util.TreeSet;

/**
 * Two objects come to the same state; the call in question is made on one of them alone; and then all that
 * can be seen of the two is compared.
 */
final class Twins {
    /** What told() has beforehand: a SIGNAL (6, 0, 77); a count (1, the WAGONS of TRACK 0, 0). */
    private static final String[] EARLIER = {
        "signal(4, 77); raise(4); signal(4, NONE)", "wagonAt(0, 40)"};

    private static final int[][] TOLD_EARLIER = {{6, 0, 77}, {1, 0, 0}};

    private Twins() { }

    /** The call is refused, and nothing changes. */
    static void refused(String sentence, String setup, String call, int want) {
        changes(sentence, setup, call, want);
    }

    /** The call has a FAILURE, and nothing changes but told(). */
    static void fails(String sentence, String setup, String call, int failure, int count, int signal) {
        failsAndChanges(sentence, setup, call, failure, count, signal);
    }

    /** The call has a FAILURE, and besides told() changes just these, "onRake(0, 0)=3". */
    static void failsAndChanges(String sentence, String setup, String call, int failure, int count, int signal,
            String... changes) {
        compare(sentence, setup, call, -200 - failure, new int[] {failure, count, signal}, changes);
    }

    /** The call, which can have FAILURES, has none; it tells a count, and changes just these. */
    static void succeeds(String sentence, String setup, String call, int want, int count, String... changes) {
        compare(sentence, setup, call, want, new int[] {0, count, 0}, changes);
    }

    /** The call, which can have no FAILURE, leaves told() as it was, and changes just these. */
    static void changes(String sentence, String setup, String call, int want, String... changes) {
        compare(sentence, setup, call, want, null, changes);
    }

    private static void compare(String sentence, String setup, String call, int want, int[] told,
            String[] changes) {
        for (int i = 0; i < EARLIER.length; i++) {
            Yard x = new Yard(setup, EARLIER[i]);
            Yard y = new Yard(setup, EARLIER[i]);
            String place = sentence + ": " + call;
            Check.due(place, x.ask(call), want);
            for (int what = 0; what < 3; what++) {
                int before = y.ask("told(" + what + ")");
                if (what != 1 || i == 0) {
                    Check.due(place + ", told(" + what + ") beforehand", before, TOLD_EARLIER[i][what]);
                }
                int due = told == null ? before : told[what];
                Check.due(place + ", then told(" + what + ")", x.ask("told(" + what + ")"), due);
            }
            Check.same(place + ", what it changed", difference(x.look(), y.look()), Set.of(changes));
        }
    }

    private static Set<String> difference(Map<String, Integer> seen, Map<String, Integer> before) {
        Set<String> changed = new TreeSet<>();
        for (Map.Entry<String, Integer> e : seen.entrySet()) {
            if (!e.getValue().equals(before.get(e.getKey()))) {
                changed.add(e.getKey() + "=" + e.getValue());
            }
        }
        for (String key : before.keySet()) {
            if (!seen.containsKey(key)) {
                changed.add(key + " is gone");
            }
        }
        return changed;
    }
}
