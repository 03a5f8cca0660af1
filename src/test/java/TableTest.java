/** Promises 17 and 18: table, add. */
public final class TableTest {
    private static final int UNKNOWN = WagonSidings.UNKNOWN, OUTSIDE = WagonSidings.OUTSIDE;

    public static void main(String[] args) {
        table();
        tableRefused();
        add();
        addFails();
        everyPlaceIsItsOwn();
        Check.end();
    }

    private static void table() {
        WagonSidings x = new WagonSidings();
        Check.due("table(0, 2, 3)", x.table(0, 2, 3), 1);
        Check.told(x, "table(0, 2, 3)", 0, 0, 0);
        x.add(0, 1, 2, 5);
        x.add(0, 0, 0, 6);
        Check.due("table(0, -1, 3)", x.table(0, -1, 3), -202);
        Check.told(x, "table(0, -1, 3)", 2, 0, 0);
        Check.due("it is as it was", x.add(0, 1, 2, 0), 5);
        Check.due("table(0, 2, 3) anew", x.table(0, 2, 3), 1);
        Check.due("all 0", x.add(0, 1, 2, 0), 0);
        Check.due("all 0", x.add(0, 0, 0, 0), 0);
        Check.due("table(0, 0, 0)", x.table(0, 0, 0), 1);
        Check.due("no rows", x.add(0, 0, 0, 1), -203);
        Check.due("table(0, 3, 0)", x.table(0, 3, 0), 1);
        Check.due("rows without places", x.add(0, 0, 0, 1), -203);
        Check.due("table(1, -1, 0)", x.table(1, -1, 0), -202);
        Check.due("still NONE", x.add(1, 0, 0, 1), -201);
    }

    private static void tableRefused() {
        WagonSidings x = new WagonSidings();
        Check.due("table(2, 1, 1)", x.table(2, 1, 1), UNKNOWN);
        Check.due("table(-1, 13, 7)", x.table(-1, 13, 7), UNKNOWN);
        Check.due("table(0, 13, 1)", x.table(0, 13, 1), OUTSIDE);
        Check.due("table(0, 1, 7)", x.table(0, 1, 7), OUTSIDE);
        Check.due("table(0, 1, -1)", x.table(0, 1, -1), OUTSIDE);
        Check.due("OUTSIDE before FAILURE 2", x.table(0, -1, -1), OUTSIDE);
        Check.due("OUTSIDE before FAILURE 2", x.table(0, -1, 7), OUTSIDE);
        Check.told(x, "refused tables", 0, 0, 0);
        Check.due("add(0, 0, 0, 1)", x.add(0, 0, 0, 1), -201);
    }

    private static void add() {
        WagonSidings x = new WagonSidings();
        x.table(1, 2, 2);
        Check.due("add(1, 0, 1, MAX)", x.add(1, 0, 1, Integer.MAX_VALUE), Integer.MAX_VALUE);
        Check.due("add wraps", x.add(1, 0, 1, 1), Integer.MIN_VALUE);
        Check.told(x, "add", 0, 0, 0);
        Check.due("add(1, 1, 1, -4)", x.add(1, 1, 1, -4), -4);
    }

    private static void addFails() {
        WagonSidings x = new WagonSidings();
        Check.due("add(2, 0, 0, 1)", x.add(2, 0, 0, 1), UNKNOWN);
        Check.due("add(-1, 0, 0, 1)", x.add(-1, 0, 0, 1), UNKNOWN);
        Check.due("NONE before INDEX", x.add(0, -1, -1, 1), -201);
        Check.told(x, "add without a table", 1, 0, 0);
        x.table(0, 2, 3);
        int[][] places = {{2, 0}, {-1, 0}, {0, 3}, {0, -1}, {Integer.MAX_VALUE, 0}, {0, Integer.MIN_VALUE}};
        for (int[] p : places) {
            Check.due("add(0, " + p[0] + ", " + p[1] + ", 1)", x.add(0, p[0], p[1], 1), -203);
            Check.told(x, "add without a place", 3, 0, 0);
        }
        Check.due("nothing changed", x.add(0, 1, 0, 0), 0);
    }

    private static void everyPlaceIsItsOwn() {
        WagonSidings x = new WagonSidings();
        x.table(0, 12, 6);
        x.table(1, 12, 6);
        for (int i = 0; i < 12; i++) {
            for (int j = 0; j < 6; j++) {
                x.add(0, i, j, 10 * i + j);
            }
        }
        for (int i = 0; i < 12; i++) {
            for (int j = 0; j < 6; j++) {
                Check.due("add(0, " + i + ", " + j + ", 0)", x.add(0, i, j, 0), 10 * i + j);
                Check.due("add(1, " + i + ", " + j + ", 0)", x.add(1, i, j, 0), 0);
            }
        }
    }
}
