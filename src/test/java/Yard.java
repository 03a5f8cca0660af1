import java.util.LinkedHashMap;
import java.util.Map;

/** One object, asked by calls that are written out as text: "stand(0, NONE); load(0, 1, MAX)". */
final class Yard {
    /** The document promises nothing of later calls, so no test may make them. */
    private static final int MOST_CALLS = 512;

    private final WagonSidings x = new WagonSidings();
    private int calls;

    Yard(String... setup) {
        for (String text : setup) {
            askAll(text);
        }
    }

    int calls() {
        return calls;
    }

    void askAll(String text) {
        for (String call : text.split(";")) {
            if (!call.isBlank()) {
                ask(call.trim());
            }
        }
    }

    int ask(String call) {
        calls++;
        if (calls > MOST_CALLS) {
            throw new IllegalStateException("a test with more than 512 calls of one object");
        }
        int open = call.indexOf('(');
        String[] words = call.substring(open + 1, call.length() - 1).split(",");
        int[] a = new int[words.length];
        for (int i = 0; i < a.length; i++) {
            a[i] = number(words[i].trim());
        }
        return Calls.ask(x, call.substring(0, open), a);
    }

    private static int number(String word) {
        switch (word) {
            case "NONE": return WagonSidings.NONE;
            case "MIN": return Integer.MIN_VALUE;
            case "MAX": return Integer.MAX_VALUE;
            default: return Integer.parseInt(word);
        }
    }

    /** All that can be seen of the state, told() apart. It uses the object up: no call may follow. */
    Map<String, Integer> look() {
        Map<String, Integer> seen = new LinkedHashMap<>();
        int wagons = lookAtWagons(seen);
        for (int rake = 0; rake < 4; rake++) {
            for (int i = 0; i < 12; i++) {
                see(seen, "onRake(" + rake + ", " + i + ")");
            }
            see(seen, "places(" + rake + ")");
        }
        for (int track = 0; track < 6; track++) {
            see(seen, "signal(" + track + ", NONE)");
        }
        lookAtTables(seen);
        lookForOnesAhead(seen, wagons);
        lookAtRakeKinds(seen);
        return seen;
    }

    private void see(Map<String, Integer> seen, String call) {
        seen.put(call, ask(call));
    }

    private int lookAtWagons(Map<String, Integer> seen) {
        for (int w = 0; w <= 40; w++) {
            int kind = ask("about(" + w + ", 0)");
            if (kind == WagonSidings.UNKNOWN) {
                return w;
            }
            seen.put("about(" + w + ", 0)", kind);
            for (int what = 1; what < 4; what++) {
                see(seen, "about(" + w + ", " + what + ")");
            }
        }
        return 41;
    }

    private void lookAtTables(Map<String, Integer> seen) {
        for (int table = 0; table < 2; table++) {
            for (int i = 0; i < 12; i++) {
                for (int j = 0; j < 6; j++) {
                    see(seen, "add(" + table + ", " + i + ", " + j + ", 0)");
                }
            }
        }
    }

    /** Takes all TRACKS' WAGONS away: then only those that have one ahead may not stand on one. */
    private void lookForOnesAhead(Map<String, Integer> seen, int wagons) {
        for (int track = 0; track < 6; track++) {
            String call = "stand(" + track + ", NONE)";
            Check.due(call + " and about(..., 3)", ask(call), wagonThatHas(seen, wagons, 3, track));
        }
        for (int w = 0; w < wagons; w++) {
            int ahead = ask("stand(0, " + w + ")") == WagonSidings.STATE ? 1 : 0;
            boolean isBehindOne = wagonThatHas(seen, wagons, 2, w) != WagonSidings.NONE;
            Check.due(w + " has one ahead and about(..., 2)", ahead, isBehindOne ? 1 : 0);
            seen.put(w + " has one ahead", ahead);
        }
    }

    private static int wagonThatHas(Map<String, Integer> seen, int wagons, int what, int value) {
        for (int w = 0; w < wagons; w++) {
            if (seen.get("about(" + w + ", " + what + ")") == value) {
                return w;
            }
        }
        return WagonSidings.NONE;
    }

    private void lookAtRakeKinds(Map<String, Integer> seen) {
        for (int kind = 0; kind < 5; kind++) {
            int w = ask("wagon(" + kind + ", 0)");
            seen.put("new wagon " + kind, w);
            if (w < 0) {
                return;
            }
            ask("stand(0, " + w + ")");
            for (int rake = 0; rake < 4; rake++) {
                seen.put("rake " + rake + " takes " + kind, ask("lay(" + rake + ", 0)"));
            }
        }
    }
}
