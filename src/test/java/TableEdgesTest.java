/** The boundary cases of promises 17 and 18, sentence by sentence. */
public final class TableEdgesTest {
    private static final int UNKNOWN = WagonSidings.UNKNOWN, OUTSIDE = WagonSidings.OUTSIDE;

    private static final String BUSY = Scene.BUSY;

    private static final String[] NO_TABLES = {"-1", "2", "MIN", "MAX"};

    public static void main(String[] args) {
        tableTaken();
        tableAllZero();
        tableUnknown();
        tableOutside();
        tableBelowZero();
        addEachPlace();
        addWraps();
        addUnknown();
        addWithoutATable();
        addWithoutAPlace();
        Check.end();
    }

    /** Promise 17, "of n rows, m places each: 1", for the least and the greatest: no place more, none less. */
    private static void tableTaken() {
        for (int table = 0; table < 2; table++) {
            for (int n : new int[] {0, 1, 11, 12}) {
                for (int m : new int[] {0, 1, 5, 6}) {
                    Yard x = new Yard();
                    String call = "table(" + table + ", " + n + ", " + m + ")";
                    Check.due(call, x.ask(call), 1);
                    sizesDue(x, table, n, m);
                }
            }
        }
        Twins.succeeds("the only change", BUSY, "table(1, 1, 1)", 1, 0, changesOfTableOne());
    }

    private static void sizesDue(Yard x, int table, int n, int m) {
        for (int i = -1; i <= 12; i++) {
            for (int j = -1; j <= 6; j++) {
                boolean there = i >= 0 && i < n && j >= 0 && j < m;
                String call = "add(" + table + ", " + i + ", " + j + ", 0)";
                Check.due(call + " of " + n + " rows of " + m, x.ask(call), there ? 0 : -203);
            }
        }
    }

    private static String[] changesOfTableOne() {
        String[] changes = new String[72];
        for (int i = 0; i < 12; i++) {
            for (int j = 0; j < 6; j++) {
                changes[6 * i + j] = "add(1, " + i + ", " + j + ", 0)=" + (i + j == 0 ? 0 : -203);
            }
        }
        return changes;
    }

    /** Promise 17, "all 0". */
    private static void tableAllZero() {
        Twins.succeeds("a new one of the same sizes", BUSY, "table(0, 2, 3)", 1, 0, "add(0, 1, 2, 0)=0");
        Yard x = new Yard("table(1, 12, 6)");
        for (int i = 0; i < 12; i++) {
            for (int j = 0; j < 6; j++) {
                x.ask("add(1, " + i + ", " + j + ", 5)");
            }
        }
        x.askAll("table(1, 0, 0); table(1, 12, 6)");
        for (int i = 0; i < 12; i++) {
            for (int j = 0; j < 6; j++) {
                Check.due("smaller, then greater", x.ask("add(1, " + i + ", " + j + ", 0)"), 0);
            }
        }
    }

    /** Promise 17, "UNKNOWN", ahead of OUTSIDE and FAILURE 2. */
    private static void tableUnknown() {
        for (String table : NO_TABLES) {
            Twins.refused("no TABLE", BUSY, "table(" + table + ", 1, 1)", UNKNOWN);
            Twins.refused("UNKNOWN before OUTSIDE", BUSY, "table(" + table + ", 13, 7)", UNKNOWN);
            Twins.refused("UNKNOWN before FAILURE 2", BUSY, "table(" + table + ", -1, 1)", UNKNOWN);
        }
    }

    /** Promise 17, "OUTSIDE: n above 12, m not 0 .. 6", ahead of FAILURE 2. */
    private static void tableOutside() {
        for (int table = 0; table < 2; table++) {
            for (String n : new String[] {"13", "MAX"}) {
                for (String m : new String[] {"0", "6", "-1", "7"}) {
                    Twins.refused("n above 12", BUSY, "table(" + table + ", " + n + ", " + m + ")", OUTSIDE);
                }
            }
            for (String m : new String[] {"-1", "7", "MIN", "MAX"}) {
                for (String n : new String[] {"0", "12", "-1", "MIN"}) {
                    Twins.refused("m not 0 .. 6", BUSY, "table(" + table + ", " + n + ", " + m + ")", OUTSIDE);
                }
            }
        }
    }

    /** Promise 17, "FAILURE: 2 (it is as it was)"; "2 SIZE: below 0". */
    private static void tableBelowZero() {
        for (int table = 0; table < 2; table++) {
            for (String n : new String[] {"-1", "-12", "MIN"}) {
                for (int m : new int[] {0, 3, 6}) {
                    Twins.fails("n below 0", BUSY, "table(" + table + ", " + n + ", " + m + ")", 2, 0, 0);
                }
            }
        }
    }

    /** Promise 18, "Place j of row i of a TABLE is v more: what it is then". */
    private static void addEachPlace() {
        Twins.succeeds("the least place", BUSY, "add(0, 0, 0, 5)", 5, 0, "add(0, 0, 0, 0)=5");
        Twins.succeeds("the last place", BUSY, "add(0, 1, 2, 5)", 14, 0, "add(0, 1, 2, 0)=14");
        Twins.succeeds("the last of a row", BUSY, "add(0, 0, 2, -5)", -5, 0, "add(0, 0, 2, 0)=-5");
        Twins.succeeds("the least of a row", BUSY, "add(0, 1, 0, 1)", 1, 0, "add(0, 1, 0, 0)=1");
        Twins.succeeds("0 more", BUSY, "add(0, 1, 2, 0)", 9, 0);
        Twins.succeeds("less", BUSY, "add(0, 1, 2, -10)", -1, 0, "add(0, 1, 2, 0)=-1");
        Twins.succeeds("like a FAILURE, but none", BUSY, "add(0, 1, 2, -210)", -201, 0, "add(0, 1, 2, 0)=-201");
        Twins.succeeds("place 5 of row 11", BUSY + "table(1, 12, 6);", "add(1, 11, 5, 3)", 3, 0,
            "add(1, 11, 5, 0)=3");
    }

    /** "in 32 bits, wrapping", and any number v. */
    private static void addWraps() {
        String most = "table(0, 1, 1); add(0, 0, 0, MAX);", least = "table(0, 1, 1); add(0, 0, 0, MIN);";
        Twins.succeeds("up", most, "add(0, 0, 0, 1)", Integer.MIN_VALUE, 0, "add(0, 0, 0, 0)=-2147483648");
        Twins.succeeds("far up", most, "add(0, 0, 0, MAX)", -2, 0, "add(0, 0, 0, 0)=-2");
        Twins.succeeds("down", least, "add(0, 0, 0, -1)", Integer.MAX_VALUE, 0, "add(0, 0, 0, 0)=2147483647");
        Twins.succeeds("far down", least, "add(0, 0, 0, MIN)", 0, 0, "add(0, 0, 0, 0)=0");
        Twins.succeeds("not yet", most, "add(0, 0, 0, MIN)", -1, 0, "add(0, 0, 0, 0)=-1");
    }

    /** Promise 18, "UNKNOWN", ahead of the FAILURES. */
    private static void addUnknown() {
        for (String table : NO_TABLES) {
            Twins.refused("no TABLE", BUSY, "add(" + table + ", 0, 0, 1)", UNKNOWN);
            Twins.refused("no TABLE, no place", BUSY, "add(" + table + ", -1, 6, 1)", UNKNOWN);
        }
    }

    /** Promise 18, "FAILURES: 1", ahead of 3. */
    private static void addWithoutATable() {
        for (String i : new String[] {"0", "-1", "12", "MIN", "MAX"}) {
            for (String j : new String[] {"0", "-1", "6", "MIN", "MAX"}) {
                Twins.fails("the TABLE is NONE", BUSY, "add(1, " + i + ", " + j + ", 1)", 1, 0, 0);
            }
        }
        Twins.fails("not made, as n was below 0", "table(0, -1, 1);", "add(0, 0, 0, 1)", 1, 0, 0);
    }

    /** Promise 18, "FAILURES: .. 3": no such row, no such place in it. */
    private static void addWithoutAPlace() {
        for (String i : new String[] {"-1", "2", "11", "12", "MIN", "MAX"}) {
            Twins.fails("no such row", BUSY, "add(0, " + i + ", 0, 1)", 3, 0, 0);
            Twins.fails("no such row, last place", BUSY, "add(0, " + i + ", 2, 1)", 3, 0, 0);
            Twins.fails("no such row, no such place", BUSY, "add(0, " + i + ", 3, 1)", 3, 0, 0);
        }
        for (String j : new String[] {"-1", "3", "5", "6", "MIN", "MAX"}) {
            Twins.fails("no such place", BUSY, "add(0, 0, " + j + ", 1)", 3, 0, 0);
            Twins.fails("no such place, last row", BUSY, "add(0, 1, " + j + ", 1)", 3, 0, 0);
        }
        Twins.fails("no rows", BUSY + "table(1, 0, 6);", "add(1, 0, 0, 1)", 3, 0, 0);
        Twins.fails("rows without places", BUSY + "table(1, 12, 0);", "add(1, 0, 0, 1)", 3, 0, 0);
    }
}
