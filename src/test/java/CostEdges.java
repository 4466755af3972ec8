/** Part III and promises 12 to 15: each sentence that names an edge, by itself. */
public final class CostEdges {
    private static final int[] FAR = {Integer.MIN_VALUE, -256, -2, -1, Integer.MAX_VALUE};

    public static void main(String[] args) {
        pages();
        usesInARow();
        usesLessOnce();
        usesNone();
        indexOfTheTable();
        costOfMRows();
        sortForNothing();
        sortBehindWhatIsNotUsed();
        sortWithinRoom();
        accessAndSortTogether();
        scanOfAlikeOnes();
        firstIndexOfAlikeOnes();
        joinByLooking();
        joinByHolding();
        joinByIndex();
        joinByFirstColumn();
        joinByAnyColumn();
        eighthMove();
        joinOfAlikeOnes();
        noJoin();
        writes();
        costOfAll();
        noSuchSet();
        noSuchDeed();
        wayOfAnAsk();
        wayOfAWrite();
        wayOfNoSuch();
        bestWithinTheBudget();
        bestByCost();
        bestByPrices();
        bestByFewest();
        bestByWhoIsIn();
        bestOfNone();
        Due.end();
    }

    private static TunerGame tables(int... widths) {
        TunerGame x = new TunerGame();
        for (int width : widths) {
            x.table(width);
        }
        return x;
    }

    private static void rows(TunerGame x, int table, int value, int times) {
        for (int n = 0; n < times; n++) {
            x.row(table, value, 0, 0, 0);
        }
    }

    private static void text(TunerGame x, String text) {
        Due.is("read() of " + text, Due.read(x, text), 0);
    }

    /** 64 ROWS: four with 1 in COLUMN 0, which have 0, 1, 2, 3 in COLUMN 1 and 0, 1, 0, 1 in COLUMN 2; else 15. */
    private static TunerGame few() {
        TunerGame x = tables(3);
        for (int n = 0; n < 4; n++) {
            x.row(0, 1, n, n % 2, 0);
        }
        for (int n = 0; n < 60; n++) {
            x.row(0, 15, 15, 15, 0);
        }
        return x;
    }

    /** What the first ask of a text costs with all MOVES. */
    private static void deed(TunerGame x, String ask, int want) {
        text(x, "ask share 1 from 0 " + ask + ";");
        Due.is(ask, x.deed(0, (1 << x.count(2)) - 1), want);
    }

    private static void pages() {
        Due.sentence("PAGES of a TABLE: its ROWS by 8, rounded up; a SCAN costs PAGES");
        TunerGame x = tables(1);
        text(x, "ask share 1 from 0;");
        int[] want = new int[65];
        for (int n = 1; n <= 64; n++) {
            want[n] = n % 8 == 1 ? want[n - 1] + 1 : want[n - 1];
        }
        Due.is("no ROWS", x.deed(0, 0), 0);
        for (int n = 1; n <= 64; n++) {
            x.row(0, 0, 0, 0, 0);
            Due.is(n + " ROWS", x.deed(0, 0), want[n]);
        }
        Due.is("64 ROWS", x.deed(0, 0), 8);
    }

    private static void usesInARow() {
        Due.sentence("USES its COLUMNS from the first on, as long as there is a COND with == on them");
        TunerGame x = few();
        x.index(0, 0, 1, 2, 0);
        deed(x, "where 0 == 1", 6);
        deed(x, "where 0 == 1 and 1 == 2", 3);
        deed(x, "where 0 == 1 and 1 == 2 and 2 == 0", 3);
        deed(x, "where 0 == 1 and 1 == 2 and 2 == 1", 1);
        deed(x, "where 2 == 1 and 1 == 2 and 0 == 1", 1);
        deed(x, "where 0 == 1 and 2 == 0", 6);
        deed(x, "where 0 == 1 and 2 < 0", 6);
    }

    private static void usesLessOnce() {
        Due.sentence("and then, if there is one with < on the next, that too");
        TunerGame x = few();
        x.index(0, 0, 1, 2, 0);
        deed(x, "where 0 < 2", 6);
        deed(x, "where 0 < 1", 1);
        deed(x, "where 0 < 2 and 1 == 0", 6);
        deed(x, "where 0 < 2 and 1 < 0", 6);
        deed(x, "where 0 == 1 and 1 < 2", 4);
        deed(x, "where 1 < 2 and 0 == 1", 4);
        deed(x, "where 0 == 1 and 1 < 0", 1);
        deed(x, "where 0 == 1 and 1 < 2 and 2 == 0", 4);
        deed(x, "where 0 == 1 and 1 < 2 and 2 < 0", 4);
        deed(x, "where 0 == 1 and 1 == 2 and 2 < 1", 3);
        deed(x, "where 0 == 1 and 1 == 2 and 2 < 0", 1);
    }

    private static void usesNone() {
        Due.sentence("if it USES none it is no way");
        TunerGame x = few();
        x.index(0, 0, 1, 2, 0);
        for (String ask : new String[] {"", "where 1 == 0", "where 1 < 1 and 2 == 0", "where 2 == 9"}) {
            deed(x, ask, 8);
            Due.is("by SCAN", x.way(0, 1, 0), -1);
        }
        deed(x, "where 1 == 0 order 0", 8 + 3);
        Due.is("by SCAN", x.way(0, 1, 0), -1);
    }

    private static void indexOfTheTable() {
        Due.sentence("An INDEX of the TABLE");
        TunerGame x = tables(1, 1);
        rows(x, 0, 0, 64);
        rows(x, 1, 0, 64);
        text(x, "ask share 1 from 0 where 0 == 3; ask share 1 from 1 where 0 == 3;");
        x.index(1, 0, -1, -1, 0);
        x.more(9, 0);
        x.index(0, 0, -1, -1, 0);
        int[][] want = {{8, 8, -1, -1}, {8, 1, -1, 0}, {8, 8, -1, -1}, {8, 1, -1, 0}, {1, 8, 2, -1}, {1, 1, 2, 0}};
        for (int set = 0; set < want.length; set++) {
            Due.is("deed(0, " + set + ")", x.deed(0, set), want[set][0]);
            Due.is("deed(1, " + set + ")", x.deed(1, set), want[set][1]);
            Due.is("way(0, " + set + ", 0)", x.way(0, set, 0), want[set][2]);
            Due.is("way(1, " + set + ", 0)", x.way(1, set, 0), want[set][3]);
        }
    }

    private static void costOfMRows() {
        Due.sentence("With m ROWS for which the CONDS that it USES hold it costs 1, and m by 16 rounded up, and m");
        int[][] want = {{0, 1}, {1, 3}, {2, 4}, {15, 17}, {16, 18}, {17, 20}, {31, 34}, {32, 35}, {33, 37}, {48, 52},
            {49, 54}, {63, 68}, {64, 69}};
        for (int[] w : want) {
            TunerGame x = tables(1);
            rows(x, 0, 3, w[0]);
            rows(x, 0, 7, 64 - w[0]);
            x.index(0, 0, -1, -1, 0);
            text(x, "ask share 1 from 0 where 0 == 3 order 0; ask share 1 from 0 where 0 < 4 order 0;");
            Due.is("== with m " + w[0], x.deed(0, 1), w[1]);
            Due.is("< with m " + w[0], x.deed(1, 1), w[1]);
            Due.is("by the INDEX", x.way(0, 1, 0), 0);
        }
    }

    private static void sortForNothing() {
        Due.sentence("SORT, with order: nothing, if it goes by an INDEX that has this COLUMN, all COLUMNS ahead USED by ==");
        TunerGame x = few();
        x.index(0, 0, 1, 2, 0);
        String[] asks = {"where 0 == 1 order 0", "where 0 == 1 order 1", "where 0 < 2 order 0",
            "where 0 == 1 and 1 < 2 order 1", "where 0 == 1 and 1 < 2 order 0", "where 0 == 1 and 1 == 2 order 2",
            "where 0 == 1 and 1 == 2 and 2 < 1 order 2"};
        int[] want = {6, 6, 6, 4, 4, 3, 3};
        for (int n = 0; n < asks.length; n++) {
            deed(x, asks[n], want[n]);
            Due.is("SORT of it", x.way(0, 1, 2), 0);
            Due.is("by the INDEX", x.way(0, 1, 0), 0);
            Due.is("SORT without it", x.way(0, 0, 2), 3 * x.way(0, 0, 1));
        }
    }

    private static void sortBehindWhatIsNotUsed() {
        Due.sentence("SORT: else ..");
        TunerGame x = few();
        x.index(0, 0, 1, 2, 0);
        String[] asks = {"where 0 == 1 order 2", "where 0 < 2 order 1", "where 0 < 2 and 1 == 2 order 1",
            "where 0 == 1 and 1 < 2 order 2", "where 0 == 1 and 2 == 0 order 2"};
        int[] want = {6 + 12, 6 + 12, 6 + 3, 4 + 6, 6 + 6};
        int[] sort = {12, 12, 3, 6, 6};
        for (int n = 0; n < asks.length; n++) {
            deed(x, asks[n], want[n]);
            Due.is("SORT of it", x.way(0, 1, 2), sort[n]);
            Due.is("by the INDEX", x.way(0, 1, 0), 0);
        }
        TunerGame y = few();
        y.index(0, 0, -1, -1, 0);
        deed(y, "where 0 == 1 order 1", 6 + 12);
        Due.is("an INDEX that has not this COLUMN", y.way(0, 1, 2), 12);
        deed(y, "order 0", 8 + 192);
        Due.is("an INDEX by which it does not go", y.way(0, 1, 2), 192);
        deed(y, "where 0 == 1", 6);
        Due.is("without order", y.way(0, 1, 2), 0);
        Due.is("without order, by SCAN", y.way(0, 0, 2), 0);
    }

    private static void sortWithinRoom() {
        Due.sentence("with r ROWS for which all CONDS hold: r, if that is at most ROOM; else 3 * r");
        TunerGame x = few();
        text(x, "ask share 1 from 0 where 0 == 1 order 0; ask share 1 from 0 where 0 == 1 and 1 < 3 order 0;"
                + "ask share 1 from 0 where 0 == 9 order 0; ask share 1 from 0 order 1;");
        x.more(1, 0);
        int[][] want = {{0, 12, 9, 0, 192}, {2, 12, 9, 0, 192}, {3, 12, 3, 0, 192}, {4, 4, 3, 0, 192}, {5, 4, 3, 0, 192},
            {63, 4, 3, 0, 192}, {64, 4, 3, 0, 64}, {255, 4, 3, 0, 64}};
        for (int[] w : want) {
            x.room(w[0]);
            for (int k = 0; k < 4; k++) {
                Due.is("SORT of DEED " + k + " with ROOM " + w[0], x.way(k, 0, 2), w[k + 1]);
                Due.is("DEED " + k + " with ROOM " + w[0], x.deed(k, 0), 8 + w[k + 1]);
            }
        }
        x.room(2);
        Due.is("ROOM 2 and 1 more: 3 ROWS", x.way(1, 1, 2), 3);
        Due.is("ROOM 2 and 1 more: 4 ROWS", x.way(0, 1, 2), 12);
        x.room(63);
        Due.is("ROOM 63 and 1 more: 64 ROWS", x.way(3, 1, 2), 64);
    }

    private static void accessAndSortTogether() {
        Due.sentence("ACCESS and SORT together: the least");
        TunerGame x = tables(1);
        rows(x, 0, 3, 8);
        x.index(0, 0, -1, -1, 0);
        deed(x, "where 0 == 3 order 0", 10);
        Due.is("the dearer ACCESS without SORT", x.way(0, 1, 0), 0);
        deed(x, "where 0 == 3", 1);
        Due.is("the cheaper ACCESS", x.way(0, 1, 0), -1);
        x.room(8);
        deed(x, "where 0 == 3 order 0", 9);
        Due.is("the cheaper ACCESS with a cheap SORT", x.way(0, 1, 0), -1);
        TunerGame y = few();
        y.index(0, 0, 1, -1, 0);
        y.index(0, 0, 2, -1, 0);
        deed(y, "where 0 == 1 and 1 < 2 order 2", 6);
        Due.is("two INDEXES: the dearer ACCESS without SORT", y.way(0, 3, 0), 1);
        Due.is("SORT of it", y.way(0, 3, 2), 0);
        Due.is("the other alone", y.deed(0, 1), 10);
        y.room(1);
        Due.is("ROOM of one less", y.way(0, 3, 0), 1);
    }

    private static void scanOfAlikeOnes() {
        Due.sentence("of alike ones the SCAN");
        for (int m = 5; m <= 7; m++) {
            TunerGame x = tables(1);
            rows(x, 0, 3, m);
            rows(x, 0, 7, 64 - m);
            x.index(0, 0, -1, -1, 0);
            deed(x, "where 0 == 3", m == 5 ? 7 : 8);
            Due.is("m " + m, x.way(0, 1, 0), m == 5 ? 0 : -1);
        }
        for (int n : new int[] {16, 17}) {
            TunerGame y = tables(1);
            rows(y, 0, 3, n);
            y.index(0, 0, -1, -1, 0);
            y.room(n);
            deed(y, "where 0 == 3 order 0", n == 16 ? 18 : 20);
            Due.is("SCAN and SORT as dear as an INDEX", y.way(0, 1, 0), -1);
            Due.is("SORT of it", y.way(0, 1, 2), n);
            y.room(n - 1);
            Due.is("dearer", y.way(0, 1, 0), 0);
            Due.is("no SORT", y.way(0, 1, 2), 0);
        }
    }

    private static void firstIndexOfAlikeOnes() {
        Due.sentence("then by the INDEXES in order (as they came)");
        TunerGame x = few();
        x.index(0, 0, 1, -1, 9);
        x.index(0, 0, 2, -1, 5);
        x.index(0, 0, -1, -1, 1);
        text(x, "ask share 1 from 0 where 0 == 1; ask share 1 from 0 where 0 == 1 and 1 < 2 order 2;");
        int[] want = {-1, 0, 1, 0, 2, 0, 1, 0};
        for (int set = 0; set < 8; set++) {
            Due.is("alike INDEXES of " + set, x.way(0, set, 0), want[set]);
        }
        text(x, "ask share 1 from 0 where 0 == 1 order 0; ask share 1 from 0 where 0 == 1 and 1 < 2 order 2;");
        for (int set = 0; set < 8; set++) {
            Due.is("alike INDEXES of " + set + " without SORT", x.way(0, set, 0), want[set]);
        }
        x.room(2);
        Due.is("4 and 2 for SORT, as dear as 6", x.way(1, 3, 0), 0);
        Due.is("SORT of the first", x.way(1, 3, 2), 2);
        TunerGame y = few();
        y.index(0, 0, 2, -1, 9);
        y.index(0, 0, 1, -1, 5);
        y.room(2);
        deed(y, "where 0 == 1 and 1 < 2 order 2", 6);
        Due.is("6, as dear as 4 and 2 for SORT", y.way(0, 3, 0), 0);
        Due.is("SORT of the first", y.way(0, 3, 2), 0);
    }

    /** TABLE 0 has ROWS with 0, TABLE 1 ROWS with 5. */
    private static TunerGame pair(int own, int other) {
        TunerGame x = tables(1, 2);
        rows(x, 0, 0, own);
        rows(x, 1, 5, other);
        return x;
    }

    private static void joinByLooking() {
        Due.sentence("by looking through it: its PAGES times r");
        int[][] want = {{0, 0, 0}, {0, 9, 0}, {3, 0, 0}, {1, 1, 1}, {3, 8, 3}, {3, 9, 6}, {64, 64, 512}};
        for (int[] w : want) {
            TunerGame x = pair(w[0], w[1]);
            text(x, "ask share 1 from 0 join 1 on 0 = 0;");
            Due.is(w[0] + " ROWS against " + w[1], x.way(0, 0, 4), w[2]);
            Due.is("by none", x.way(0, 0, 3), -1);
        }
        TunerGame y = few();
        text(y, "ask share 1 from 0 where 0 == 1 and 1 < 3 join 0 on 0 = 0;");
        Due.is("of the r ROWS, not of all", y.way(0, 0, 4), 8 * 3);
        y.index(0, 0, -1, -1, 0);
        Due.is("of the r ROWS, not of those that an INDEX finds", y.deed(0, 1), 6 + 3 * 6);
    }

    private static void joinByHolding() {
        Due.sentence("or, if its ROWS are at most ROOM, by holding it: PAGES, and r");
        TunerGame x = pair(10, 17);
        text(x, "ask share 1 from 0 join 1 on 0 = 0; ask share 1 from 0 where 0 == 9 join 1 on 0 = 0;");
        x.more(1, 0);
        x.room(16);
        Due.is("ROOM of one less", x.way(0, 0, 4), 30);
        Due.is("and 1 more", x.way(0, 1, 4), 13);
        x.room(17);
        Due.is("ROOM for all", x.way(0, 0, 4), 13);
        x.room(255);
        Due.is("ROOM beyond it", x.way(0, 0, 4), 13);
        Due.is("no ROWS are looked through for nothing", x.way(1, 0, 4), 0);
        TunerGame y = pair(1, 1);
        y.room(255);
        text(y, "ask share 1 from 0 join 1 on 0 = 0;");
        Due.is("looking through is cheaper", y.way(0, 0, 4), 1);
        TunerGame z = pair(5, 0);
        text(z, "ask share 1 from 0 join 1 on 0 = 0;");
        Due.is("nothing to look through", z.way(0, 0, 4), 0);
    }

    private static void joinByIndex() {
        Due.sentence("by an INDEX: for each of the r ROWS 1, and k by 16 rounded up, and k, if it has k ROWS with that value");
        int[][] want = {{0, 1}, {1, 3}, {2, 4}, {15, 17}, {16, 18}, {17, 20}, {32, 35}, {33, 37}};
        for (int[] w : want) {
            TunerGame x = tables(1, 1);
            rows(x, 0, 0, 20);
            rows(x, 0, 3, 1);
            rows(x, 1, 3, w[0]);
            rows(x, 1, 7, 64 - w[0]);
            x.index(1, 0, -1, -1, 0);
            text(x, "ask share 1 from 0 join 1 on 0 = 0; ask share 1 from 0 where 0 == 5 join 1 on 0 = 0;");
            Due.is("k " + w[0] + " once, 0 twenty times", x.way(0, 1, 4), 20 + w[1]);
            Due.is("by the INDEX", x.way(0, 1, 3), 0);
            Due.is("without it", x.way(0, 0, 4), 8 * 21);
            Due.is("of no ROWS", x.way(1, 1, 4), 0);
            Due.is("by none", x.way(1, 1, 3), -1);
        }
    }

    private static void joinByFirstColumn() {
        Due.sentence("an INDEX of it that has on's second COLUMN first");
        TunerGame x = tables(2, 2);
        for (int n = 0; n < 9; n++) {
            x.row(0, n, 9, 0, 0);
            x.row(1, n, 15, 0, 0);
        }
        for (int n = 0; n < 47; n++) {
            x.row(1, 15, 15, 0, 0);
        }
        text(x, "ask share 1 from 0 join 1 on 0 = 0; ask share 1 from 0 join 1 on 0 = 1;"
                + "ask share 1 from 0 join 1 on 1 = 0; ask share 1 from 0 join 0 on 1 = 0;");
        x.index(0, 0, -1, -1, 0);
        x.index(1, 1, 0, -1, 0);
        x.index(1, 0, 1, -1, 0);
        x.index(1, 0, -1, -1, 0);
        int[][] moves = {{-1, -1, 2, 3}, {-1, 1, -1, -1}, {-1, -1, 2, 3}, {0, -1, -1, -1}};
        int[][] costs = {{63, 63, 27, 27}, {63, 9, 63, 63}, {63, 63, 9, 9}, {9, 18, 18, 18}};
        for (int k = 0; k < 4; k++) {
            for (int m = 0; m < 4; m++) {
                Due.is("JOIN of DEED " + k + " with MOVE " + m, x.way(k, 1 << m, 4), costs[k][m]);
                Due.is("its MOVE", x.way(k, 1 << m, 3), moves[k][m]);
            }
        }
    }

    /** The 4, 5, 6, 7 of the ROW of TABLE 0 stand in COLUMN c of TABLE 1 (c + v) by 3, the rest, times. */
    private static void joinByAnyColumn() {
        Due.sentence("on's two (the first of the one behind from, the second of the joined one)");
        TunerGame x = tables(4, 4);
        x.row(0, 7, 6, 5, 4);
        int[][] values = new int[40][4];
        for (int c = 0; c < 4; c++) {
            int row = 0;
            for (int v = 4; v < 8; v++) {
                for (int k = 0; k < (c + v) % 3; k++) {
                    values[row++][c] = v;
                }
            }
        }
        for (int[] v : values) {
            x.row(1, v[0], v[1], v[2], v[3]);
        }
        for (int m = 0; m < 4; m++) {
            x.index(1, m, -1, -1, 0);
        }
        int[] costs = {1, 3, 4};
        for (int own = 0; own < 4; own++) {
            for (int other = 0; other < 4; other++) {
                text(x, "ask share 1 from 0 join 1 on " + own + " = " + other + ";");
                Due.is("JOIN on " + own + " = " + other, x.way(0, 15, 4), costs[(other + 7 - own) % 3]);
                Due.is("its MOVE", x.way(0, 15, 3), other);
            }
        }
    }

    private static void eighthMove() {
        Due.sentence("MOVES, 8 at most: the last of them is a way as any other");
        TunerGame x = few();
        x.table(1);
        rows(x, 1, 9, 64);
        for (int m = 0; m < 6; m++) {
            x.more(1, 0);
        }
        x.index(0, 0, -1, -1, 0);
        x.index(1, 0, -1, -1, 0);
        text(x, "ask share 1 from 0 where 0 == 1 join 1 on 0 = 0; ask share 1 from 1 where 0 == 1 join 0 on 0 = 0;");
        Due.is("ACCESS by MOVE 6", x.way(0, 255, 0), 6);
        Due.is("JOIN by MOVE 7", x.way(0, 255, 3), 7);
        Due.is("together", x.deed(0, 255), 6 + 4);
        Due.is("ACCESS by MOVE 7", x.way(1, 255, 0), 7);
        Due.is("JOIN by none of no ROWS", x.way(1, 255, 3), -1);
        Due.is("together", x.deed(1, 255), 1);
    }

    private static void joinOfAlikeOnes() {
        Due.sentence("The least; of alike ones without an INDEX, then by INDEXES in order");
        TunerGame x = tables(1, 2);
        rows(x, 0, 0, 5);
        rows(x, 1, 0, 1);
        rows(x, 1, 1, 16);
        x.index(1, 1, -1, -1, 0);
        x.index(1, 0, 1, -1, 5);
        x.index(1, 0, -1, -1, 0);
        text(x, "ask share 1 from 0 join 1 on 0 = 0;");
        Due.is("an INDEX as dear as looking through", x.way(0, 2, 4), 15);
        Due.is("without", x.way(0, 2, 3), -1);
        rows(x, 1, 1, 8);
        Due.is("a PAGE more", x.way(0, 2, 3), 1);
        int[] want = {-1, -1, 1, 1, 2, 2, 1, 1};
        for (int set = 0; set < 8; set++) {
            Due.is("alike INDEXES of " + set, x.way(0, set, 3), want[set]);
        }
        // 4 PAGES and 2 ROWS held are as dear as twice 3 by the INDEX
        TunerGame y = tables(1, 1);
        rows(y, 0, 0, 2);
        rows(y, 1, 0, 1);
        rows(y, 1, 1, 24);
        y.index(1, 0, -1, -1, 0);
        text(y, "ask share 1 from 0 join 1 on 0 = 0;");
        Due.is("an INDEX cheaper than looking through", y.way(0, 1, 4), 6);
        Due.is("by it", y.way(0, 1, 3), 0);
        y.room(25);
        Due.is("an INDEX as dear as holding", y.way(0, 1, 4), 6);
        Due.is("without", y.way(0, 1, 3), -1);
    }

    private static void noJoin() {
        Due.sentence("3: the MOVE by whose INDEX it is JOINED (NONE: by none, or no join), 4: what JOIN costs");
        TunerGame x = pair(3, 9);
        x.index(1, 0, -1, -1, 0);
        x.index(0, 0, -1, -1, 0);
        text(x, "ask share 1 from 0; ask share 1 from 0 join 1 on 0 = 1; ask share 1 from 0 join 1 on 0 = 0;");
        for (int set = 0; set < 4; set++) {
            Due.is("no join", x.way(0, set, 3), -1);
            Due.is("no join costs", x.way(0, set, 4), 0);
            Due.is("by none", x.way(1, set, 3), -1);
            Due.is("by none costs", x.way(1, set, 4), 6);
            Due.is("by the INDEX", x.way(2, set, 3), set % 2 == 1 ? 0 : -1);
            Due.is("by the INDEX costs", x.way(2, set, 4), set % 2 == 1 ? 3 : 6);
            Due.is("together", x.deed(2, set), 1 + (set % 2 == 1 ? 3 : 6));
        }
    }

    private static void writes() {
        Due.sentence("Of a write of w ROWS: w, and twice w for each INDEX of the TABLE");
        TunerGame x = tables(2, 1);
        text(x, "write share 1 into 0 rows 1; write share 1 into 0 rows 100; write share 1 into 1 rows 7;");
        for (int m = 0; m < 8; m++) {
            Due.is("INDEXES told but not in the set", x.deed(0, 0), 1);
            x.index(0, m % 2, -1, -1, 0);
            Due.is("rows 1, INDEXES " + (m + 1), x.deed(0, (2 << m) - 1), 1 + 2 * (m + 1));
            Due.is("rows 100, INDEXES " + (m + 1), x.deed(1, (2 << m) - 1), 100 + 200 * (m + 1));
            Due.is("of another TABLE", x.deed(2, (2 << m) - 1), 7);
        }
        TunerGame y = tables(1, 1);
        y.more(64, 0);
        y.index(1, 0, -1, -1, 0);
        text(y, "write share 1 into 0 rows 5;");
        Due.is("ROOM, and an INDEX of another TABLE", y.deed(0, 3), 5);
        y.row(0, 0, 0, 0, 0);
        Due.is("ROWS that are there don't matter", y.deed(0, 3), 5);
    }

    private static void costOfAll() {
        Due.sentence("THE COST: of all DEEDS, each times its share, together");
        TunerGame x = tables(1);
        rows(x, 0, 0, 9);
        text(x, "");
        Due.is("of none", x.cost(0), 0);
        text(x, "ask share 0 from 0; write share 0 into 0 rows 100;");
        Due.is("of shares of 0", x.cost(0), 0);
        Due.is("a DEED of a share of 0", x.deed(1, 0), 100);
        text(x, "ask share 1000 from 0; write share 1 into 0 rows 100; ask share 3 from 0 order 0;");
        Due.is("of three", x.cost(0), 2000 + 100 + 3 * (2 + 27));
        for (int m = 0; m < 8; m++) {
            x.index(0, 0, -1, -1, 0);
        }
        text(x, "write share 1000 into 0 rows 100;".repeat(8));
        Due.is("the greatest", x.cost(255), 13600000);
        Due.is("the greatest without INDEXES", x.cost(0), 800000);
    }

    private static void noSuchSet() {
        Due.sentence("THE COST with a set of MOVES (bits); NONE: no such set");
        TunerGame x = tables(1);
        text(x, "write share 1 into 0 rows 1;");
        for (int moves = 0; moves <= 8; moves++) {
            int sets = 1 << moves;
            Due.is("cost of none of " + moves, x.cost(0), 1);
            Due.is("cost of all of " + moves, x.cost(sets - 1), 1 + 2 * moves);
            Due.is("cost(" + sets + ")", x.cost(sets), -1);
            Due.is("cost(" + (sets + 1) + ")", x.cost(sets + 1), -1);
            for (int set : FAR) {
                Due.is("cost(" + set + ")", x.cost(set), -1);
                Due.is("deed(0, " + set + ")", x.deed(0, set), -1);
                Due.is("way(0, " + set + ", 0)", x.way(0, set, 0), -3);
            }
            x.index(0, 0, -1, -1, 100);
        }
        Due.is("a set beyond the BUDGET", x.cost(255), 17);
    }

    private static void noSuchDeed() {
        Due.sentence("What a DEED costs (without its share) with a set of MOVES; NONE: no such ones");
        TunerGame x = tables(1);
        Due.is("no DEEDS", x.deed(0, 0), -1);
        StringBuilder text = new StringBuilder();
        for (int deeds = 1; deeds <= 8; deeds++) {
            text.append("write share 9 into 0 rows ").append(deeds).append(';');
            text(x, text.toString());
            Due.is("the last DEED", x.deed(deeds - 1, 0), deeds);
            Due.is("one behind it", x.deed(deeds, 0), -1);
            Due.is("no such set", x.deed(deeds - 1, 1), -1);
        }
        for (int k : FAR) {
            Due.is("deed(" + k + ", 0)", x.deed(k, 0), -1);
        }
        text(x, "write share 9 into 0 rows 3;");
        Due.is("a DEED of the text ahead", x.deed(1, 0), -1);
    }

    private static void wayOfAnAsk() {
        Due.sentence("How an ask goes with a set of MOVES: what 0 .. 4");
        TunerGame x = few();
        x.table(1);
        rows(x, 1, 1, 3);
        x.index(0, 0, 1, -1, 0);
        x.index(1, 0, -1, -1, 0);
        text(x, "ask share 9 from 0 where 0 == 1 and 2 == 0 join 1 on 1 = 0 order 2;");
        int[][] want = {{-1, 2, 6, -1, 2}, {0, 2, 6, -1, 2}, {-1, 2, 6, -1, 2}, {0, 2, 6, -1, 2}};
        for (int set = 0; set < 4; set++) {
            for (int what = 0; what < 5; what++) {
                Due.is("way(0, " + set + ", " + what + ")", x.way(0, set, what), want[set][what]);
            }
        }
        rows(x, 1, 1, 20);
        int[] then = {0, 2, 6, 1, 2};
        for (int what = 0; what < 5; what++) {
            Due.is("way(0, 3, " + what + ") with 20 ROWS more", x.way(0, 3, what), then[what]);
        }
        Due.is("JOIN by looking through", x.way(0, 1, 4), 6);
    }

    private static void wayOfAWrite() {
        Due.sentence("way: -2: a write");
        TunerGame x = tables(1);
        text(x, "write share 1 into 0 rows 2; ask share 1 from 0; write share 1 into 0 rows 3;");
        x.index(0, 0, -1, -1, 0);
        for (int set = 0; set < 2; set++) {
            for (int what = 0; what < 5; what++) {
                Due.is("way(0, " + set + ", " + what + ")", x.way(0, set, what), -2);
                Due.is("way(2, " + set + ", " + what + ")", x.way(2, set, what), -2);
                Due.is("way(1, " + set + ", " + what + ")", x.way(1, set, what), what == 0 || what == 3 ? -1 : 0);
            }
        }
    }

    private static void wayOfNoSuch() {
        Due.sentence("way: -3: no such ones");
        TunerGame x = tables(1);
        Due.is("no DEEDS", x.way(0, 0, 0), -3);
        text(x, "ask share 1 from 0; write share 1 into 0 rows 2;");
        x.more(1, 0);
        for (int what : new int[] {-3, -2, -1, 5, 6, Integer.MIN_VALUE, Integer.MAX_VALUE}) {
            Due.is("way(0, 0, " + what + ")", x.way(0, 0, what), -3);
            Due.is("way(1, 0, " + what + ") of a write", x.way(1, 0, what), -3);
        }
        for (int none : new int[] {2, 3, 8, -1, -2, Integer.MIN_VALUE, Integer.MAX_VALUE}) {
            for (int what = 0; what < 5; what++) {
                Due.is("way(" + none + ", 0, " + what + ")", x.way(none, 0, what), -3);
                Due.is("way(0, " + none + ", " + what + ")", x.way(0, none, what), -3);
                Due.is("way(1, " + none + ", " + what + ") of a write", x.way(1, none, what), -3);
            }
        }
    }

    /** Five ROWS to SORT: with a share of 1 it costs 16 without ROOM for them, 6 with it. */
    private static TunerGame sorter() {
        TunerGame x = tables(1);
        rows(x, 0, 0, 5);
        text(x, "ask share 1 from 0 order 0;");
        x.budget(800);
        return x;
    }

    private static void bestWithinTheBudget() {
        Due.sentence("THE BEST: of all sets within the BUDGET");
        TunerGame x = sorter();
        x.more(5, 7);
        x.more(2, 3);
        x.more(3, 2);
        int[] want = {0, 0, 0, 0, 0, 6, 6, 6, 6};
        for (int b = 0; b < want.length; b++) {
            x.budget(b);
            Due.is("BUDGET " + b, x.best(), want[b]);
        }
        TunerGame y = sorter();
        y.more(5, 100);
        y.budget(99);
        Due.is("one too few", y.best(), 0);
        y.budget(100);
        Due.is("all of it", y.best(), 1);
        y.play(0);
        Due.is("what is done does not matter", y.best(), 1);
        y.budget(0);
        Due.is("nor does it when the BUDGET is less", y.best(), 0);
        TunerGame z = sorter();
        z.more(5, 0);
        z.budget(0);
        Due.is("a MOVE for nothing is within 0", z.best(), 1);
    }

    private static void bestByCost() {
        Due.sentence("THE BEST: that with the least COST");
        TunerGame x = tables(1, 1);
        rows(x, 0, 0, 5);
        rows(x, 1, 0, 6);
        text(x, "ask share 1 from 0 order 0; ask share 1 from 1 order 0;");
        x.budget(800);
        x.more(5, 0);
        x.more(6, 100);
        Due.is("a COST less by PRICES of 100", x.best(), 2);
        x.budget(99);
        Due.is("the next", x.best(), 1);
        text(x, "ask share 1 from 0 where 0 == 0 order 0; write share 5 into 0 rows 1;");
        x.index(0, 0, -1, -1, 0);
        Due.is("an INDEX that costs more than it saves", x.best(), 1);
        text(x, "write share 5 into 0 rows 1;");
        Due.is("nothing is saved", x.best(), 0);
    }

    private static void bestByPrices() {
        Due.sentence("THE BEST: of these the least PRICES together");
        TunerGame x = sorter();
        x.more(5, 4);
        x.more(2, 1);
        x.more(3, 2);
        Due.is("two for 3 rather than one for 4", x.best(), 6);
        TunerGame y = sorter();
        y.more(5, 4);
        y.more(6, 3);
        y.more(7, 5);
        Due.is("the cheapest", y.best(), 2);
        TunerGame z = sorter();
        z.room(5);
        z.more(5, 1);
        Due.is("none for nothing saved", z.best(), 0);
    }

    private static void bestByFewest() {
        Due.sentence("THE BEST: of these the fewest");
        TunerGame x = sorter();
        x.more(2, 1);
        x.more(3, 1);
        x.more(5, 2);
        Due.is("one for 2 rather than two for 2", x.best(), 4);
        TunerGame y = sorter();
        y.more(1, 0);
        y.more(1, 0);
        Due.is("none rather than some for nothing", y.best(), 0);
        y.more(5, 0);
        Due.is("one rather than all for nothing", y.best(), 4);
    }

    private static void bestByWhoIsIn() {
        Due.sentence("THE BEST: of these the first by who is in (the least MOVE that is not in both)");
        TunerGame x = sorter();
        for (int more = 1; more <= 4; more++) {
            x.more(more, 1);
        }
        Due.is("0 and 3 rather than 1 and 2", x.best(), 9);
        TunerGame y = sorter();
        y.more(1, 0);
        y.more(5, 0);
        y.more(5, 0);
        Due.is("1 rather than 2", y.best(), 2);
        TunerGame z = sorter();
        z.more(4, 1);
        z.more(1, 1);
        z.more(1, 1);
        z.more(1, 1);
        Due.is("0 and 1 rather than 0 and 2 or 3", z.best(), 3);
        TunerGame last = sorter();
        last.more(1, 1);
        last.more(2, 1);
        last.more(2, 1);
        last.more(1, 1);
        last.more(1, 1);
        last.more(2, 1);
        Due.is("0, 1, 2 of all threes of at least 5", last.best(), 7);
    }

    private static void bestOfNone() {
        Due.sentence("THE BEST set of MOVES (bits)");
        Due.is("of no MOVES", sorter().best(), 0);
        TunerGame x = sorter();
        text(x, "");
        x.more(5, 0);
        Due.is("of no DEEDS", x.best(), 0);
        TunerGame y = tables(1);
        rows(y, 0, 0, 64);
        text(y, "ask share 1 from 0 order 0;");
        for (int m = 0; m < 8; m++) {
            y.more(8, 100);
        }
        y.budget(800);
        Due.is("all eight", y.best(), 255);
        y.budget(799);
        Due.is("not all eight", y.best(), 0);
    }
}
