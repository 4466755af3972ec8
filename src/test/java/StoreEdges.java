/** The Terms and promises 1, 6 to 11 and 25: each sentence that names an edge, by itself. */
public final class StoreEdges {
    private static final int[] FAR = {Integer.MIN_VALUE, Integer.MIN_VALUE + 1, -256, -100, Integer.MAX_VALUE};

    public static void main(String[] args) {
        newObject();
        fourTables();
        columnsOfATable();
        tableRefused();
        valuesOfARow();
        valuesOfNoColumn();
        sixtyFourRows();
        rowRefused();
        roomWithin();
        budgetWithin();
        eightMoves();
        columnsOfAnIndex();
        indexOfNoTable();
        pricesOfMoves();
        indexRefused();
        roomOfMore();
        moreRefused();
        counts();
        setsWithinTheBudget();
        countOfOthers();
        Due.end();
    }

    private static TunerGame tables(int... widths) {
        TunerGame x = new TunerGame();
        for (int width : widths) {
            x.table(width);
        }
        return x;
    }

    private static void newObject() {
        Due.sentence("No TABLES, no DEEDS, no MOVES; ROOM 0, BUDGET 0");
        School.made();
        TunerGame x = new TunerGame();
        int[] want = {0, 0, 0, 0, 0, 0, 0, 1, 0};
        for (int what = 0; what < want.length; what++) {
            Due.is("count(" + what + ")", x.count(what), want[what]);
        }
        Due.is("place()", x.place(), -1);
        Due.is("row of TABLE 0", x.row(0, 0, 0, 0, 0), -1);
        Due.is("index of TABLE 0", x.index(0, 0, -1, -1, 0), -1);
        Due.is("deed(0, 0)", x.deed(0, 0), -1);
        Due.is("way(0, 0, 0)", x.way(0, 0, 0), -3);
        Due.is("cost(0)", x.cost(0), 0);
        Due.is("cost(1)", x.cost(1), -1);
        Due.is("best()", x.best(), 0);
        Due.is("play(0)", x.play(0), -1);
        Due.is("undo()", x.undo(), -1);
        Due.is("done(0)", x.done(0), -1);
        Due.is("explained(0)", x.explained(0), -1);
        Due.is("saved(0, 0)", x.saved(0, 0), -1000000);
        Due.is("marks()", x.marks(), 100);
        Due.is("ideas()", x.ideas(), 0);
        Due.is("hint()", x.hint(), -1);
        Due.is("back(1)", x.back(1), -1);
        Due.is("read()", x.read(), 0);
        x.table(1);
        x.row(0, 0, 0, 0, 0);
        Due.read(x, "ask share 1 from 0 order 0;");
        Due.is("ROOM 0 holds no ROW", x.deed(0, 0), 1 + 3);
        x.more(1, 1);
        Due.is("a MOVE is beyond a BUDGET of 0", x.play(0), -2);
    }

    private static void fourTables() {
        Due.sentence("TABLES, 4 at most, numbered from 0 on; NONE: 4 are there");
        TunerGame x = new TunerGame();
        for (int t = 0; t < 4; t++) {
            Due.is("table(" + (4 - t) + ")", x.table(4 - t), t);
            Due.is("count(0)", x.count(0), t + 1);
        }
        for (int columns = 1; columns <= 4; columns++) {
            Due.is("a fifth: table(" + columns + ")", x.table(columns), -1);
        }
        Due.is("a fifth of no COLUMNS", x.table(0), -1);
        Due.is("count(0)", x.count(0), 4);
        for (int t = 0; t < 4; t++) {
            Due.is("a ROW of TABLE " + t, x.row(t, 1, 0, 0, 0), 1);
            Due.is("its last COLUMN", x.index(t, 3 - t, -1, -1, 0), t);
            Due.is("a COLUMN behind it", x.index(t, 4 - t, -1, -1, 0), -1);
        }
        Due.is("a ROW of TABLE 4", x.row(4, 1, 0, 0, 0), -1);
    }

    private static void columnsOfATable() {
        Due.sentence("COLUMNS 1 .. 4; NONE: no such COLUMNS");
        for (int columns = -2; columns <= 7; columns++) {
            TunerGame x = new TunerGame();
            boolean taken = columns >= 1 && columns <= 4;
            Due.is("table(" + columns + ")", x.table(columns), taken ? 0 : -1);
            Due.is("count(0)", x.count(0), taken ? 1 : 0);
        }
        for (int columns : FAR) {
            Due.is("table(" + columns + ")", new TunerGame().table(columns), -1);
        }
        TunerGame y = new TunerGame();
        y.table(5);
        Due.is("the first that is taken is number 0", y.table(4), 0);
    }

    private static void tableRefused() {
        Due.sentence("table: NONE, and nothing happens");
        for (int columns : new int[] {0, 5, -1, Integer.MAX_VALUE}) {
            Due.nothing("table(" + columns + ")", School::made, x -> x.table(columns));
        }
        Due.nothing("a fifth table", StoreEdges::full, x -> x.table(4));
    }

    /** The school with four TABLES. */
    private static TunerGame full() {
        TunerGame x = School.made();
        x.table(1);
        x.table(1);
        return x;
    }

    private static void valuesOfARow() {
        Due.sentence("ROWS of values 0 .. 15; NONE: no such values");
        for (int column = 0; column < 4; column++) {
            TunerGame x = tables(4);
            int rows = 0;
            for (int value = -2; value <= 18; value++) {
                boolean taken = value >= 0 && value <= 15;
                rows += taken ? 1 : 0;
                Due.is("value " + value + " of COLUMN " + column, rowWith(x, column, value), taken ? rows : -1);
            }
            for (int value : FAR) {
                Due.is("value " + value + " of COLUMN " + column, rowWith(x, column, value), -1);
            }
            Due.read(x, "ask share 1 from 0; ask share 1 from 0 where " + column + " == 15; ask share 1 from 0 where "
                    + column + " < 15; ask share 1 from 0 where " + column + " == 0; ask share 1 from 0 where " + column
                    + " < 0;");
            int[] want = {16, 1, 15, 1, 0};
            for (int k = 0; k < want.length; k++) {
                Due.is("r of DEED " + k, x.way(k, 0, 1), want[k]);
            }
        }
    }

    private static int rowWith(TunerGame x, int column, int value) {
        return x.row(0, column == 0 ? value : 1, column == 1 ? value : 1, column == 2 ? value : 1, column == 3 ? value : 1);
    }

    private static void valuesOfNoColumn() {
        Due.sentence("values of COLUMNS that it has not must be 0");
        for (int width = 1; width <= 4; width++) {
            for (int column = 1; column < 4; column++) {
                for (int value : new int[] {1, 15, -1, 16, Integer.MIN_VALUE}) {
                    TunerGame x = tables(width);
                    boolean taken = column < width && value >= 0 && value <= 15;
                    int got = x.row(0, 3, column == 1 ? value : 0, column == 2 ? value : 0, column == 3 ? value : 0);
                    Due.is("value " + value + " of COLUMN " + column + " of " + width, got, taken ? 1 : -1);
                    Due.is("zeros", x.row(0, 0, 0, 0, 0), taken ? 2 : 1);
                }
            }
        }
    }

    private static void sixtyFourRows() {
        Due.sentence("ROWS, 64 at most; how many it has. NONE: 64 are there");
        TunerGame x = tables(1, 1, 1, 1);
        for (int t = 3; t >= 0; t--) {
            for (int n = 1; n <= 64; n++) {
                Due.is("ROW " + n + " of TABLE " + t, x.row(t, 15, 0, 0, 0), n);
            }
            Due.is("a 65th", x.row(t, 15, 0, 0, 0), -1);
            Due.is("a 65th once more", x.row(t, 0, 0, 0, 0), -1);
        }
        Due.read(x, "ask share 1 from 0; ask share 1 from 3 where 0 == 15; ask share 1 from 3 where 0 == 0;");
        Due.is("r", x.way(0, 0, 1), 64);
        Due.is("r with the value", x.way(1, 0, 1), 64);
        Due.is("r of the refused one", x.way(2, 0, 1), 0);
    }

    private static void rowRefused() {
        Due.sentence("row: NONE, and nothing happens: no such TABLE, values");
        TunerGame x = tables(1, 4);
        for (int table : new int[] {2, 3, 4, -1, -2}) {
            Due.is("row(" + table + ", ..)", x.row(table, 0, 0, 0, 0), -1);
        }
        for (int table : FAR) {
            Due.is("row(" + table + ", ..)", x.row(table, 0, 0, 0, 0), -1);
        }
        Due.is("row(1, ..)", x.row(1, 1, 1, 1, 1), 1);
        Due.is("row(0, ..)", x.row(0, 1, 0, 0, 0), 1);
        int[][] refused = {{2, 0, 0, 0, 0}, {-1, 0, 0, 0, 0}, {0, 16, 0, 0, 0}, {0, 0, -1, 0, 0}, {0, 1, 1, 1, 0},
            {0, 1, 1, 0, 1}, {1, 1, 1, 0, 0}, {1, -1, 0, 0, 0}};
        for (int[] r : refused) {
            Due.nothing("row(" + java.util.Arrays.toString(r) + ")", School::made, y -> y.row(r[0], r[1], r[2], r[3], r[4]));
        }
    }

    private static void roomWithin() {
        Due.sentence("ROOM (0 .. 255) becomes r: true; false for others");
        TunerGame x = tables(1);
        for (int r : new int[] {255, 0, 254, 1, 128, 7}) {
            Due.is("room(" + r + ")", x.room(r), true);
            Due.is("count(5)", x.count(5), r);
        }
        for (int r : new int[] {-1, 256, 257, 1000}) {
            Due.is("room(" + r + ")", x.room(r), false);
            Due.is("count(5)", x.count(5), 7);
        }
        for (int r : FAR) {
            Due.is("room(" + r + ")", x.room(r), false);
        }
        for (int r : new int[] {-1, 256, Integer.MIN_VALUE}) {
            Due.nothing("room(" + r + ")", School::made, y -> y.room(r));
        }
    }

    private static void budgetWithin() {
        Due.sentence("BUDGET (0 .. 800) becomes b: true; false for others");
        TunerGame x = tables(1);
        for (int b : new int[] {800, 0, 799, 1, 400, 7}) {
            Due.is("budget(" + b + ")", x.budget(b), true);
            Due.is("count(6)", x.count(6), b);
        }
        for (int b : new int[] {-1, 801, 802, 10000}) {
            Due.is("budget(" + b + ")", x.budget(b), false);
            Due.is("count(6)", x.count(6), 7);
        }
        for (int b : FAR) {
            Due.is("budget(" + b + ")", x.budget(b), false);
        }
        for (int b : new int[] {-1, 801, Integer.MIN_VALUE}) {
            Due.nothing("budget(" + b + ")", School::made, y -> y.budget(b));
        }
        for (int m = 0; m < 8; m++) {
            x.more(1, 100);
        }
        x.budget(800);
        for (int m = 0; m < 8; m++) {
            Due.is("the greatest BUDGET holds the greatest PRICES", x.play(m), m + 1);
        }
        Due.is("their PRICES", x.count(4), 800);
    }

    private static void eightMoves() {
        Due.sentence("MOVES, 8 at most, numbered from 0 on; NONE: 8 are there");
        for (int rooms = 0; rooms <= 8; rooms++) {
            TunerGame x = tables(2);
            for (int m = 0; m < 8; m++) {
                Due.is("MOVE " + m, m < rooms ? x.more(1, 1) : x.index(0, 1, 0, -1, 1), m);
                Due.is("count(2)", x.count(2), m + 1);
            }
            Due.is("a ninth INDEX", x.index(0, 1, -1, -1, 1), -1);
            Due.is("a ninth ROOM", x.more(1, 1), -1);
            Due.is("count(2)", x.count(2), 8);
            Due.is("the set of all", x.cost(255), 0);
            Due.is("a set with a ninth", x.cost(256), -1);
        }
        Due.nothing("a ninth INDEX", StoreEdges::eight, x -> x.index(0, 1, -1, -1, 0));
        Due.nothing("a ninth ROOM", StoreEdges::eight, x -> x.more(9, 0));
    }

    /** The school with eight MOVES. */
    private static TunerGame eight() {
        TunerGame x = School.made();
        x.index(0, 1, 0, -1, 2);
        x.index(0, 0, -1, -1, 2);
        x.more(3, 3);
        x.index(1, 0, -1, -1, 100);
        return x;
    }

    private static void columnsOfAnIndex() {
        Due.sentence("An INDEX of a TABLE is a row of 1 .. 3 unlike COLUMNS (b, c NONE: none; c only behind b)");
        for (int width = 1; width <= 4; width++) {
            int taken = 0;
            for (int a = -3; a <= 5; a++) {
                for (int b = -3; b <= 5; b++) {
                    for (int c = -3; c <= 5; c++) {
                        TunerGame x = tables(width);
                        int got = x.index(0, a, b, c, 1);
                        Due.is("index(0, " + a + ", " + b + ", " + c + ", 1) of " + width, got, isIndex(width, a, b, c) ? 0 : -1);
                        Due.is("count(2)", x.count(2), got + 1);
                        taken += got + 1;
                    }
                }
            }
            Due.is("INDEXES of " + width + " COLUMNS", taken, width + width * (width - 1) + width * (width - 1) * (width - 2));
        }
        for (int far : FAR) {
            TunerGame x = tables(4);
            Due.is("a " + far, x.index(0, far, -1, -1, 1), -1);
            Due.is("b " + far, x.index(0, 0, far, -1, 1), -1);
            Due.is("c " + far, x.index(0, 0, 1, far, 1), -1);
        }
        TunerGame y = tables(1);
        Due.is("index", y.index(0, 0, -1, -1, 1), 0);
        Due.is("a MOVE with alike COLUMNS is another MOVE", y.index(0, 0, -1, -1, 1), 1);
    }

    private static boolean isIndex(int width, int a, int b, int c) {
        boolean first = a >= 0 && a < width;
        boolean second = b >= 0 && b < width && b != a;
        boolean third = c >= 0 && c < width && c != a && c != b;
        return first && (b == -1 && c == -1 || second && c == -1 || second && third);
    }

    private static void indexOfNoTable() {
        Due.sentence("index: NONE: no such TABLE, COLUMNS");
        TunerGame x = tables(1, 3);
        for (int table : new int[] {2, 3, 4, -1, -2}) {
            Due.is("index(" + table + ", ..)", x.index(table, 0, -1, -1, 1), -1);
        }
        for (int table : FAR) {
            Due.is("index(" + table + ", ..)", x.index(table, 0, -1, -1, 1), -1);
        }
        Due.is("a COLUMN of another TABLE", x.index(0, 2, -1, -1, 1), -1);
        Due.is("a second one of another TABLE", x.index(0, 0, 2, -1, 1), -1);
        Due.is("MOVES", x.count(2), 0);
        Due.is("index", x.index(1, 2, 0, 1, 1), 0);
    }

    private static void pricesOfMoves() {
        Due.sentence("each has a PRICE (0 .. 100); NONE: no such PRICE");
        for (int price : new int[] {-2, -1, 0, 1, 50, 99, 100, 101, 102, Integer.MIN_VALUE, Integer.MAX_VALUE}) {
            boolean taken = price >= 0 && price <= 100;
            TunerGame x = tables(1);
            x.budget(800);
            Due.is("index for " + price, x.index(0, 0, -1, -1, price), taken ? 0 : -1);
            Due.is("more for " + price, x.more(1, price), taken ? 1 : -1);
            Due.is("MOVES", x.count(2), taken ? 2 : 0);
            x.play(0);
            Due.is("PRICE of the INDEX", x.count(4), taken ? price : 0);
            x.play(1);
            Due.is("PRICE of both", x.count(4), taken ? 2 * price : 0);
        }
    }

    private static void indexRefused() {
        Due.sentence("index: NONE, and nothing happens");
        int[][] refused = {{2, 0, -1, -1, 0}, {-1, 0, -1, -1, 0}, {0, 2, -1, -1, 0}, {0, -1, -1, -1, 0}, {0, 0, 2, -1, 0},
            {0, 0, 0, -1, 0}, {0, 0, 1, 0, 0}, {0, 0, 1, 1, 0}, {0, 0, -1, 1, 0}, {0, 0, 1, 2, 0}, {0, 1, -1, -1, -1},
            {0, 1, -1, -1, 101}};
        for (int[] r : refused) {
            Due.nothing("index(" + java.util.Arrays.toString(r) + ")", School::made, x -> {
                Due.is("index", x.index(r[0], r[1], r[2], r[3], r[4]), -1);
            });
        }
        TunerGame y = tables(2);
        y.index(0, 0, 1, 1, 1);
        Due.is("what is taken behind a refused one is number 0", y.index(0, 1, -1, -1, 1), 0);
    }

    private static void roomOfMore() {
        Due.sentence("A MOVE: ROOM more (1 .. 64): its number; NONE: no such ROOM");
        for (int room : new int[] {-1, 0, 1, 2, 63, 64, 65, 66, 255, Integer.MIN_VALUE, Integer.MAX_VALUE}) {
            boolean taken = room >= 1 && room <= 64;
            TunerGame x = new TunerGame();
            Due.is("more(" + room + ", 0)", x.more(room, 0), taken ? 0 : -1);
            Due.is("MOVES", x.count(2), taken ? 1 : 0);
        }
        TunerGame y = tables(1);
        for (int n = 0; n < 64; n++) {
            y.row(0, 0, 0, 0, 0);
        }
        y.more(64, 0);
        y.more(63, 0);
        y.more(1, 0);
        Due.read(y, "ask share 1 from 0 order 0;");
        Due.is("64 more hold 64 ROWS", y.deed(0, 1), 8 + 64);
        Due.is("63 more don't", y.deed(0, 2), 8 + 192);
        Due.is("1 more doesn't", y.deed(0, 4), 8 + 192);
        Due.is("63 and 1 do", y.deed(0, 6), 8 + 64);
        y.room(255);
        Due.is("more than all", y.deed(0, 7), 8 + 64);
        Due.is("ROOM stays as told", y.count(5), 255);
    }

    private static void moreRefused() {
        Due.sentence("more: NONE, and nothing happens: no such ROOM, PRICE");
        for (int[] r : new int[][] {{0, 0}, {65, 0}, {-1, 0}, {1, -1}, {1, 101}, {64, Integer.MAX_VALUE}}) {
            Due.nothing("more(" + r[0] + ", " + r[1] + ")", School::made, x -> {
                Due.is("more", x.more(r[0], r[1]), -1);
            });
        }
        TunerGame y = new TunerGame();
        y.more(65, 1);
        Due.is("what is taken behind a refused one is number 0", y.more(64, 100), 0);
        y.budget(100);
        y.play(0);
        Due.is("its PRICE", y.count(4), 100);
    }

    private static void counts() {
        Due.sentence("0 TABLES, 1 DEEDS, 2 MOVES, 3 MOVES done, 4 PRICES of these, 5 ROOM, 6 BUDGET, 8 bytes on the tape");
        TunerGame x = School.made();
        int[] want = {2, 5, 4, 2, 7, 2, 9, -9, 19};
        for (int what = 0; what < want.length; what++) {
            if (what != 7) {
                Due.is("count(" + what + ")", x.count(what), want[what]);
            }
        }
        x.undo();
        Due.is("MOVES done behind undo", x.count(3), 1);
        Due.is("PRICES behind undo", x.count(4), 4);
        x.budget(0);
        Due.is("PRICES beyond a lesser BUDGET", x.count(4), 4);
        x.undo();
        Due.is("PRICES of none", x.count(4), 0);
        x.read();
        Due.is("bytes behind read", x.count(8), 0);
        Due.is("DEEDS behind read", x.count(1), 1);
    }

    private static void setsWithinTheBudget() {
        Due.sentence("7 sets within the BUDGET: if their PRICES together are at most that");
        TunerGame x = new TunerGame();
        Due.is("the empty set of none", x.count(7), 1);
        x.more(1, 3);
        x.more(1, 2);
        x.more(1, 2);
        int[] want = {1, 1, 3, 4, 5, 7, 7, 8, 8};
        for (int b = 0; b < want.length; b++) {
            x.budget(b);
            Due.is("sets within " + b, x.count(7), want[b]);
        }
        x.play(0);
        Due.is("what is done does not matter", x.count(7), 8);
        x.budget(0);
        x.more(1, 0);
        Due.is("a MOVE for nothing is within 0", x.count(7), 2);
        for (int m = 4; m < 8; m++) {
            x.more(1, 100);
        }
        x.budget(800);
        Due.is("all sets of eight", x.count(7), 256);
        x.budget(406);
        Due.is("all but those of all that cost", x.count(7), 254);
    }

    private static void countOfOthers() {
        Due.sentence("count: NONE for others");
        TunerGame x = School.made();
        for (int what : new int[] {-1, -2, 9, 10, Integer.MIN_VALUE, Integer.MAX_VALUE}) {
            Due.is("count(" + what + ")", x.count(what), -1);
        }
    }
}
