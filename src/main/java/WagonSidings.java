/** A yard of coupled wagons on tracks, with rakes, tables and signals. */
public final class WagonSidings {
    public static final int NONE = -1, UNKNOWN = -101, OUTSIDE = -102, STATE = -103, ROOM = -104;

    private static final int OPEN = 0, VAN = 1, TANK = 2, ENGINE = 3, CRANE = 4;

    private static final int NOT_THERE = 1, SIZE = 2, INDEX = 3, OTHER_KIND = 4, STORE = 5, RAISED = 6;

    private static final int FAILURE_BASE = -200;

    private static final int MOST_WAGONS = 40, TRACKS = 6, RAKES = 4, TABLES = 2;

    private static final int MOST_PLACES = 12, MOST_ROWS = 12, MOST_COLUMNS = 6;

    private static final class Wagon {
        final int number;
        final int kind;
        int cargo;
        Wagon behind;
        boolean hasOneAhead;
        int firstOn = NONE;

        Wagon(int number, int kind, int cargo) {
            this.number = number;
            this.kind = kind;
            this.cargo = cargo;
        }
    }

    private static final class Track {
        Wagon first;
        int hung = NONE;

        Wagon nth(int n) {
            Wagon w = first;
            for (int i = 0; i < n && w != null; i++) {
                w = w.behind;
            }
            return w;
        }

        int length() {
            int count = 0;
            for (Wagon w = first; w != null; w = w.behind) {
                count++;
            }
            return count;
        }
    }

    // Rakes and tables are made once, at their greatest size, so that calls make no rows.
    private static final class Rake {
        boolean made;
        int kind;
        int size;
        final Wagon[] row = new Wagon[MOST_PLACES];

        void renew(int newKind, int newSize) {
            made = true;
            kind = newKind;
            size = newSize;
            for (int i = 0; i < row.length; i++) {
                row[i] = null;
            }
        }

        boolean hasPlace(int i) {
            return made && i >= 0 && i < size && i < row.length;
        }
    }

    private static final class Table {
        boolean made;
        int rows;
        int columns;
        final int[] cells = new int[MOST_ROWS * MOST_COLUMNS];

        void renew(int newRows, int newColumns) {
            made = true;
            rows = newRows;
            columns = newColumns;
            for (int i = 0; i < cells.length; i++) {
                cells[i] = 0;
            }
        }

        boolean hasPlace(int i, int j) {
            return i >= 0 && i < rows && i < MOST_ROWS && j >= 0 && j < columns && j < MOST_COLUMNS;
        }
    }

    private final Wagon[] wagons = new Wagon[MOST_WAGONS];
    private int wagonCount;
    private final Track[] tracks = new Track[TRACKS];
    private final Rake[] rakes = new Rake[RAKES];
    private final Table[] tables = new Table[TABLES];
    private int toldFailure;
    private int toldCount;
    private int toldSignal;

    public WagonSidings() {
        for (int i = 0; i < TRACKS; i++) {
            tracks[i] = new Track();
        }
        for (int i = 0; i < RAKES; i++) {
            rakes[i] = new Rake();
        }
        for (int i = 0; i < TABLES; i++) {
            tables[i] = new Table();
        }
    }

    // ---- the yard

    public int wagon(int kind, int load) {
        if (!isKind(kind)) {
            return OUTSIDE;
        }
        if (wagonCount >= wagons.length) {
            return ROOM;
        }
        int number = wagonCount;
        wagons[number] = new Wagon(number, kind, load);
        wagonCount++;
        return number;
    }

    public int couple(int a, int b) {
        Wagon front = findWagon(a);
        Wagon rear = findWagon(b);
        if (front == null || rear == null) {
            return UNKNOWN;
        }
        if (front.behind != null || rear.hasOneAhead || rear.firstOn != NONE || isAtOrBehind(front, rear)) {
            return STATE;
        }
        front.behind = rear;
        rear.hasOneAhead = true;
        return 1;
    }

    public int stand(int track, int wagon) {
        Track t = findTrack(track);
        Wagon w = findWagon(wagon);
        if (t == null || (w == null && wagon != NONE)) {
            return UNKNOWN;
        }
        if (w != null && (w.hasOneAhead || w.firstOn != NONE)) {
            return STATE;
        }
        Wagon before = t.first;
        if (before != null) {
            before.firstOn = NONE;
        }
        if (w != null) {
            w.firstOn = track;
        }
        t.first = w;
        return numberOf(before);
    }

    public int signal(int track, int number) {
        Track t = findTrack(track);
        if (t == null) {
            return UNKNOWN;
        }
        if (number < NONE) {
            return OUTSIDE;
        }
        int before = t.hung;
        t.hung = number;
        return before;
    }

    // ---- asked of the n-th wagon of a track

    public int wagonAt(int track, int n) {
        Wagon w = reach(track, n);
        return w == null ? answerUnreached(track, n) : w.number;
    }

    public int load(int track, int n, int v) {
        Wagon w = reach(track, n);
        if (w == null) {
            return answerUnreached(track, n);
        }
        w.cargo = v;
        return 1;
    }

    public int cut(int track, int n) {
        Wagon w = reach(track, n);
        if (w == null) {
            return answerUnreached(track, n);
        }
        if (w.behind != null) {
            w.behind.hasOneAhead = false;
            w.behind = null;
        }
        return 1;
    }

    public int hoot(int track, int n) {
        Wagon w = reach(track, n);
        return w == null ? answerUnreached(track, n) : hootOf(w);
    }

    public int pull(int track, int n) {
        Wagon w = reach(track, n);
        if (w == null) {
            return answerUnreached(track, n);
        }
        return isOf(w.kind, ENGINE) ? pullOf(w) : fail(OTHER_KIND, n);
    }

    public int loadAs(int track, int n, int kind) {
        if (!isKind(kind)) {
            return findTrack(track) == null ? UNKNOWN : OUTSIDE;
        }
        Wagon w = reach(track, n);
        if (w == null) {
            return answerUnreached(track, n);
        }
        return isOf(w.kind, kind) ? w.cargo : fail(OTHER_KIND, n);
    }

    // ---- rakes, tables

    public int rake(int rake, int kind, int n) {
        Rake r = findRake(rake);
        if (r == null) {
            return UNKNOWN;
        }
        if (!isKind(kind) || n > MOST_PLACES) {
            return OUTSIDE;
        }
        if (n < 0) {
            return fail(SIZE, 0);
        }
        r.renew(kind, n);
        return succeed(0, 1);
    }

    public int drop(int rake) {
        Rake r = findRake(rake);
        if (r == null) {
            return UNKNOWN;
        }
        r.made = false;
        return 1;
    }

    public int lay(int rake, int track) {
        Rake r = findRake(rake);
        Track t = findTrack(track);
        if (r == null || t == null) {
            return UNKNOWN;
        }
        if (!r.made || t.first == null) {
            return fail(NOT_THERE, 0);
        }
        int laid = 0;
        for (Wagon w = t.first; w != null; w = w.behind) {
            if (!r.hasPlace(laid)) {
                return fail(INDEX, laid);
            }
            if (!isOf(w.kind, r.kind)) {
                return fail(STORE, laid);
            }
            r.row[laid] = w;
            laid++;
        }
        return succeed(laid, laid);
    }

    public int places(int rake) {
        Rake r = findRake(rake);
        if (r == null) {
            return UNKNOWN;
        }
        return r.made ? succeed(0, r.size) : fail(NOT_THERE, 0);
    }

    public int loadOn(int rake, int i) {
        Rake r = findRake(rake);
        if (r == null) {
            return UNKNOWN;
        }
        if (!r.made) {
            return fail(NOT_THERE, 0);
        }
        if (!r.hasPlace(i)) {
            return fail(INDEX, 0);
        }
        Wagon w = r.row[i];
        return w == null ? fail(NOT_THERE, 0) : succeed(0, w.cargo);
    }

    public int table(int table, int n, int m) {
        Table t = findTable(table);
        if (t == null) {
            return UNKNOWN;
        }
        if (n > MOST_ROWS || m < 0 || m > MOST_COLUMNS) {
            return OUTSIDE;
        }
        if (n < 0) {
            return fail(SIZE, 0);
        }
        t.renew(n, m);
        return succeed(0, 1);
    }

    public int add(int table, int i, int j, int v) {
        Table t = findTable(table);
        if (t == null) {
            return UNKNOWN;
        }
        if (!t.made) {
            return fail(NOT_THERE, 0);
        }
        if (!t.hasPlace(i, j)) {
            return fail(INDEX, 0);
        }
        int cell = i * MOST_COLUMNS + j;
        t.cells[cell] += v;
        return succeed(0, t.cells[cell]);
    }

    // ---- signals

    public int raise(int track) {
        Track t = findTrack(track);
        if (t == null) {
            return UNKNOWN;
        }
        if (t.hung == NONE) {
            return fail(NOT_THERE, 0);
        }
        int answer = fail(RAISED, 0);
        toldSignal = t.hung;
        return answer;
    }

    public int told(int what) {
        switch (what) {
            case 0:
                return toldFailure;
            case 1:
                return toldCount;
            case 2:
                return toldSignal;
            default:
                return UNKNOWN;
        }
    }

    public int about(int wagon, int what) {
        Wagon w = findWagon(wagon);
        if (w == null) {
            return UNKNOWN;
        }
        switch (what) {
            case 0:
                return w.kind;
            case 1:
                return w.cargo;
            case 2:
                return numberOf(w.behind);
            case 3:
                return w.firstOn;
            default:
                return UNKNOWN;
        }
    }

    public int onRake(int rake, int i) {
        Rake r = findRake(rake);
        if (r == null) {
            return UNKNOWN;
        }
        return r.hasPlace(i) ? numberOf(r.row[i]) : NONE;
    }

    // ---- finding by number: null where there is no such one

    private Wagon findWagon(int number) {
        return number >= 0 && number < wagons.length ? wagons[number] : null;
    }

    private Track findTrack(int number) {
        return number >= 0 && number < tracks.length ? tracks[number] : null;
    }

    private Rake findRake(int number) {
        return number >= 0 && number < rakes.length ? rakes[number] : null;
    }

    private Table findTable(int number) {
        return number >= 0 && number < tables.length ? tables[number] : null;
    }

    // ---- the n-th wagon of a track

    /** The wagon, told as a success; or null, and then answerUnreached() has the answer. */
    private Wagon reach(int track, int n) {
        Track t = findTrack(track);
        if (t == null || isOutsideTrack(n)) {
            return null;
        }
        Wagon w = t.nth(n);
        if (w != null) {
            tell(0, n);
        }
        return w;
    }

    private int answerUnreached(int track, int n) {
        Track t = findTrack(track);
        if (t == null) {
            return UNKNOWN;
        }
        return isOutsideTrack(n) ? OUTSIDE : fail(NOT_THERE, t.length());
    }

    private static boolean isOutsideTrack(int n) {
        return n < 0 || n > MOST_WAGONS;
    }

    // ---- kinds and wagons

    private static boolean isKind(int kind) {
        return kind >= OPEN && kind <= CRANE;
    }

    /** Whether a wagon of a kind can be taken as another kind; every wagon can be as kind 0. */
    private static boolean isOf(int kind, int asked) {
        return asked == OPEN || kind == asked
            || (kind == TANK && asked == VAN)
            || (kind == CRANE && asked == ENGINE);
    }

    private static int hootOf(Wagon w) {
        switch (w.kind) {
            case VAN:
            case TANK:
                return w.cargo + 1;
            case ENGINE:
                return 10 * w.cargo;
            case CRANE:
                return 10 * w.cargo - 1;
            default:
                return w.cargo;
        }
    }

    private static int pullOf(Wagon engine) {
        int sum = 0;
        for (Wagon w = engine.behind; w != null; w = w.behind) {
            sum += w.cargo;
        }
        return engine.kind == CRANE ? sum - engine.cargo : sum;
    }

    private static boolean isAtOrBehind(Wagon sought, Wagon start) {
        for (Wagon w = start; w != null; w = w.behind) {
            if (w == sought) {
                return true;
            }
        }
        return false;
    }

    private static int numberOf(Wagon w) {
        return w == null ? NONE : w.number;
    }

    // ---- what told() answers

    private void tell(int failure, int count) {
        toldFailure = failure;
        toldCount = count;
        toldSignal = 0;
    }

    private int succeed(int count, int answer) {
        tell(0, count);
        return answer;
    }

    private int fail(int failure, int count) {
        tell(failure, count);
        return FAILURE_BASE - failure;
    }
}
