import java.util.ArrayList;
import java.util.List;
import java.util.Objects;

/**
 * The document once more, on another footing: real classes for the kinds, and the Java machine's own
 * exceptions for the failures. RandomRunsTest compares the program with it.
 */
final class MachineYard {
    private static class Wagon {
        int number;
        int kind;
        int load;
        Wagon behind;

        int hoot() {
            return load;
        }
    }

    private static class Van extends Wagon {
        @Override int hoot() {
            return super.hoot() + 1;
        }
    }

    private static final class Tank extends Van { }

    private static class Engine extends Wagon {
        @Override int hoot() {
            return load * 10;
        }

        int pull() {
            return behind == null ? 0 : sum(behind);
        }

        private static int sum(Wagon w) {
            return w.load + (w.behind == null ? 0 : sum(w.behind));
        }
    }

    private static final class Crane extends Engine {
        @Override int hoot() {
            return super.hoot() - 1;
        }

        @Override int pull() {
            return super.pull() - load;
        }
    }

    private static final class Signal extends RuntimeException {
        private static final long serialVersionUID = 1L;
        final int number;

        Signal(int number) {
            this.number = number;
        }
    }

    private static final String NAMES = " wagonAt load cut hoot pull loadAs rake lay places loadOn table add raise ";

    private final List<Wagon> wagons = new ArrayList<>();
    private final Wagon[] first = new Wagon[6];
    private final Signal[] signals = new Signal[6];
    private final Wagon[][] rakes = new Wagon[4][];
    private final int[][][] tables = new int[2][][];
    private final int[] told = new int[3];
    private int laid;

    int call(String name, int[] a) {
        int refusal = refusal(name, a);
        if (refusal != 0) {
            return refusal;
        }
        if (!NAMES.contains(" " + name + " ")) {
            return plain(name, a);
        }
        laid = 0;
        int answer;
        int failure = 0;
        int signal = 0;
        try {
            answer = failing(name, a);
        } catch (NullPointerException e) {
            failure = 1;
            answer = -201;
        } catch (NegativeArraySizeException e) {
            failure = 2;
            answer = -202;
        } catch (ArrayIndexOutOfBoundsException e) {
            failure = 3;
            answer = -203;
        } catch (ClassCastException e) {
            failure = 4;
            answer = -204;
        } catch (ArrayStoreException e) {
            failure = 5;
            answer = -205;
        } catch (Signal e) {
            failure = 6;
            answer = -206;
            signal = e.number;
        }
        told[0] = failure;
        told[1] = asksNth(name) ? (failure == 1 ? chain(first[a[0]]).size() : a[1]) : laid;
        told[2] = signal;
        return answer;
    }

    private static boolean asksNth(String name) {
        return " wagonAt load cut hoot pull loadAs ".contains(" " + name + " ");
    }

    private int refusal(String name, int[] a) {
        if (isUnknown(name, a)) {
            return WagonSidings.UNKNOWN;
        }
        if (isOutside(name, a)) {
            return WagonSidings.OUTSIDE;
        }
        if (isState(name, a)) {
            return WagonSidings.STATE;
        }
        return name.equals("wagon") && wagons.size() == 40 ? WagonSidings.ROOM : 0;
    }

    private static boolean in(int i, int below) {
        return 0 <= i && i < below;
    }

    private boolean isUnknown(String name, int[] a) {
        switch (name) {
            case "wagon": return false;
            case "couple": return !in(a[0], wagons.size()) || !in(a[1], wagons.size());
            case "stand": return !in(a[0], 6) || (a[1] != -1 && !in(a[1], wagons.size()));
            case "lay": return !in(a[0], 4) || !in(a[1], 6);
            case "rake": case "drop": case "places": case "loadOn": case "onRake": return !in(a[0], 4);
            case "table": case "add": return !in(a[0], 2);
            case "told": return !in(a[0], 3);
            case "about": return !in(a[0], wagons.size()) || !in(a[1], 4);
            default: return !in(a[0], 6);
        }
    }

    private static boolean isOutside(String name, int[] a) {
        switch (name) {
            case "wagon": return !in(a[0], 5);
            case "signal": return a[1] < -1;
            case "rake": return !in(a[1], 5) || a[2] > 12;
            case "table": return a[1] > 12 || !in(a[2], 7);
            case "loadAs": return !in(a[1], 41) || !in(a[2], 5);
            default: return asksNth(name) && !in(a[1], 41);
        }
    }

    private boolean isState(String name, int[] a) {
        if (name.equals("couple")) {
            Wagon front = wagons.get(a[0]);
            Wagon rear = wagons.get(a[1]);
            return front.behind != null || isTaken(rear) || chain(rear).contains(front);
        }
        return name.equals("stand") && a[1] != -1 && isTaken(wagons.get(a[1]));
    }

    private boolean isTaken(Wagon w) {
        return wagons.stream().anyMatch(o -> o.behind == w) || trackOf(w) != -1;
    }

    private int trackOf(Wagon w) {
        for (int t = 0; t < 6; t++) {
            if (first[t] == w) {
                return t;
            }
        }
        return -1;
    }

    private static List<Wagon> chain(Wagon from) {
        List<Wagon> all = new ArrayList<>();
        for (Wagon w = from; w != null; w = w.behind) {
            all.add(w);
        }
        return all;
    }

    private static int number(Wagon w) {
        return w == null ? -1 : w.number;
    }

    private int plain(String name, int[] a) {
        switch (name) {
            case "wagon": return newWagon(a[0], a[1]);
            case "couple":
                wagons.get(a[0]).behind = wagons.get(a[1]);
                return 1;
            case "stand": {
                int before = number(first[a[0]]);
                first[a[0]] = a[1] == -1 ? null : wagons.get(a[1]);
                return before;
            }
            case "signal": {
                int before = signals[a[0]] == null ? -1 : signals[a[0]].number;
                signals[a[0]] = a[1] == -1 ? null : new Signal(a[1]);
                return before;
            }
            case "drop":
                rakes[a[0]] = null;
                return 1;
            case "told": return told[a[0]];
            case "about": {
                Wagon w = wagons.get(a[0]);
                return new int[] {w.kind, w.load, number(w.behind), trackOf(w)}[a[1]];
            }
            default: {
                Wagon[] r = rakes[a[0]];
                return r == null || !in(a[1], r.length) ? -1 : number(r[a[1]]);
            }
        }
    }

    private int newWagon(int kind, int load) {
        Wagon w = kind == 0 ? new Wagon() : kind == 1 ? new Van() : kind == 2 ? new Tank()
            : kind == 3 ? new Engine() : new Crane();
        w.number = wagons.size();
        w.kind = kind;
        w.load = load;
        wagons.add(w);
        return w.number;
    }

    private Wagon nth(int track, int n) {
        Wagon w = first[track];
        for (int i = 0; i < n; i++) {
            w = w.behind;
        }
        return w;
    }

    private int failing(String name, int[] a) {
        switch (name) {
            case "wagonAt": return nth(a[0], a[1]).number;
            case "load":
                nth(a[0], a[1]).load = a[2];
                return 1;
            case "cut":
                nth(a[0], a[1]).behind = null;
                return 1;
            case "hoot": return nth(a[0], a[1]).hoot();
            case "pull": return ((Engine) nth(a[0], a[1])).pull();
            case "loadAs": return as(nth(a[0], a[1]), a[2]).load;
            case "rake":
                rakes[a[0]] = newRow(a[1], a[2]);
                return 1;
            case "lay": return layAll(rakes[a[0]], first[a[1]]);
            case "places": return rakes[a[0]].length;
            case "loadOn": return rakes[a[0]][a[1]].load;
            case "table":
                tables[a[0]] = new int[a[1]][a[2]];
                return 1;
            case "add": return tables[a[0]][a[1]][a[2]] += a[3];
            default: throw signals[a[0]];
        }
    }

    private static Wagon as(Wagon w, int kind) {
        switch (kind) {
            case 0: return w;
            case 1: return (Van) w;
            case 2: return (Tank) w;
            case 3: return (Engine) w;
            default: return (Crane) w;
        }
    }

    private static Wagon[] newRow(int kind, int n) {
        switch (kind) {
            case 0: return new Wagon[n];
            case 1: return new Van[n];
            case 2: return new Tank[n];
            case 3: return new Engine[n];
            default: return new Crane[n];
        }
    }

    private int layAll(Wagon[] row, Wagon from) {
        Objects.requireNonNull(row);
        Objects.requireNonNull(from);
        for (Wagon w : chain(from)) {
            row[laid] = w;
            laid++;
        }
        return laid;
    }
}
