/** Promises 12 to 15: THE COST, what a DEED costs, how an ask goes, and THE BEST. */
public final class CostTests {
    public static void main(String[] args) {
        pages();
        uses();
        lookups();
        sorts();
        alike();
        joins();
        writes();
        wrongInputs();
        bestByCostAndPrices();
        bestOfAlikeOnes();
        Due.end();
    }

    /** TABLE 0 with 64 unlike ROWS: COLUMN 0 has 2 values, COLUMN 1 has 4, COLUMN 2 has 8. */
    private static TunerGame cube(String text) {
        TunerGame x = new TunerGame();
        x.table(3);
        for (int n = 0; n < 64; n++) {
            x.row(0, n & 1, n >> 1 & 3, n >> 3 & 7, 0);
        }
        Due.is("read() of " + text, Due.read(x, text), 0);
        return x;
    }

    /** So many ROWS with one value in the TABLE's first COLUMN. */
    private static void rows(TunerGame x, int table, int value, int times) {
        for (int n = 0; n < times; n++) {
            x.row(table, value, 0, 0, 0);
        }
    }

    private static void pages() {
        TunerGame x = new TunerGame();
        x.table(1);
        Due.read(x, "ask share 3 from 0;");
        Due.is("an empty TABLE", x.deed(0, 0), 0);
        for (int n = 1; n <= 64; n++) {
            x.row(0, 0, 0, 0, 0);
            Due.is("PAGES of " + n + " ROWS", x.deed(0, 0), (n + 7) / 8);
        }
        Due.is("COST has the share", x.cost(0), 24);
    }

    private static void uses() {
        TunerGame x = cube("ask share 1 from 0 where 0 == 1 and 1 < 1 and 2 == 0 order 0;"
                + "ask share 1 from 0 where 0 == 1 and 2 == 0;"
                + "ask share 1 from 0 where 2 < 1 and 1 == 0;"
                + "ask share 1 from 0 where 2 < 0;"
                + "ask share 1 from 0;");
        x.index(0, 0, 1, 2, 0);
        x.index(0, 0, 2, -1, 0);
        x.index(0, 1, 2, -1, 0);
        x.index(0, 2, 1, -1, 0);
        Due.is("r by all CONDS", x.way(0, 0, 1), 1);
        Due.is("by SCAN", x.deed(0, 0), 11);
        Due.is("== and < are USED, == behind < is not", x.deed(0, 1), 10);
        Due.is("by the INDEX", x.way(0, 1, 0), 0);
        Due.is("a gap ends what is USED", x.deed(1, 1), 8);
        Due.is("by SCAN", x.way(1, 1, 0), -1);
        Due.is("two by ==", x.deed(1, 2), 6);
        Due.is("by the INDEX", x.way(1, 2, 0), 1);
        Due.is("== and then <", x.deed(2, 4), 4);
        Due.is("< ends what is USED", x.deed(2, 8), 8);
        Due.is("the cheaper INDEX of two", x.way(2, 12, 0), 2);
        Due.is("no ROWS", x.deed(3, 8), 1);
        Due.is("r", x.way(3, 8, 1), 0);
        Due.is("an INDEX that USES none", x.deed(4, 15), 8);
        Due.is("is no way", x.way(4, 15, 0), -1);
        Due.is("COST", x.cost(15), 6 + 6 + 4 + 1 + 8);
        Due.is("COST without any", x.cost(0), 11 + 8 + 8 + 8 + 8);
    }

    private static void lookups() {
        TunerGame x = new TunerGame();
        x.table(2);
        rows(x, 0, 0, 16);
        rows(x, 0, 1, 17);
        rows(x, 0, 2, 31);
        Due.read(x, "ask share 1 from 0 where 0 == 0 order 1; ask share 1 from 0 where 0 == 1 order 1;"
                + "ask share 1 from 0 where 0 == 3;");
        x.index(0, 0, 1, -1, 0);
        Due.is("16 ROWS", x.deed(0, 1), 18);
        Due.is("17 ROWS", x.deed(1, 1), 20);
        Due.is("no ROWS", x.deed(2, 1), 1);
    }

    private static void sorts() {
        TunerGame x = cube("ask share 1 from 0 where 2 == 0 and 0 == 1 order 1;"
                + "ask share 1 from 0 where 2 < 1 order 1;"
                + "ask share 1 from 0 where 2 < 1 order 2;"
                + "ask share 1 from 0 order 2;"
                + "ask share 1 from 0 where 2 == 0 and 1 < 1 order 1;"
                + "ask share 1 from 0 where 2 == 0 and 1 < 1 order 0;");
        x.index(0, 2, 0, 1, 0);
        x.index(0, 2, 1, -1, 0);
        x.index(0, 2, 0, -1, 0);
        x.index(0, 2, 1, 0, 0);
        x.more(4, 0);
        Due.is("thrice r beyond ROOM", x.way(0, 0, 2), 12);
        Due.is("r within ROOM", x.way(0, 16, 2), 4);
        x.room(4);
        Due.is("r within ROOM as told", x.way(0, 0, 2), 4);
        x.room(3);
        Due.is("r beyond ROOM by one", x.way(0, 0, 2), 12);
        Due.is("ROOM and more of it", x.way(0, 16, 2), 4);
        x.room(0);
        Due.is("order behind all USED by ==", x.deed(0, 1), 6);
        Due.is("order behind one USED by ==", x.deed(0, 2), 10);
        Due.is("nothing to SORT", x.way(0, 2, 2), 0);
        Due.is("an INDEX without the COLUMN", x.deed(0, 4), 18);
        Due.is("SORT with it", x.way(0, 4, 2), 12);
        Due.is("SORT with it and ROOM", x.deed(0, 20), 10);
        Due.is("order behind one USED by <", x.deed(1, 2), 32);
        Due.is("SORT there", x.way(1, 2, 2), 24);
        Due.is("order by the one USED by <", x.deed(2, 2), 10);
        Due.is("order without CONDS: no way by an INDEX", x.deed(3, 15), 200);
        Due.is("order by the one USED by < behind ==", x.deed(4, 2), 4);
        Due.is("order behind == and <", x.deed(5, 8), 10);
        Due.is("SORT there", x.way(5, 8, 2), 6);
        Due.is("ACCESS there", x.way(5, 8, 0), 3);
        Due.is("no order, no SORT", x.way(2, 2, 2), 0);
    }

    private static void alike() {
        TunerGame x = new TunerGame();
        x.table(2);
        for (int n = 0; n < 40; n++) {
            x.row(0, n % 16, n % 2, 0, 0);
        }
        Due.read(x, "ask share 1 from 0 where 0 == 3; ask share 1 from 0 where 0 == 9;"
                + "ask share 1 from 0 where 0 == 9 order 0;");
        x.index(0, 0, -1, -1, 0);
        x.index(0, 0, 1, -1, 0);
        Due.is("an INDEX as dear as a SCAN", x.deed(0, 1), 5);
        Due.is("it goes by SCAN", x.way(0, 1, 0), -1);
        Due.is("by either INDEX", x.deed(1, 2), 4);
        Due.is("by the second alone", x.way(1, 2, 0), 1);
        Due.is("by the first of both", x.way(1, 3, 0), 0);
        Due.is("by the first of both, in order", x.way(2, 3, 0), 0);
    }

    private static void joins() {
        TunerGame x = new TunerGame();
        x.table(1);
        x.table(2);
        x.table(1);
        rows(x, 0, 0, 10);
        rows(x, 0, 1, 1);
        rows(x, 0, 2, 1);
        rows(x, 1, 1, 16);
        rows(x, 1, 2, 17);
        for (int n = 0; n < 15; n++) {
            x.row(2, n, 0, 0, 0);
        }
        Due.read(x, "ask share 1 from 0 where 0 < 2 join 1 on 0 = 0; ask share 1 from 0 join 1 on 0 = 0;"
                + "ask share 1 from 2 join 2 on 0 = 0; ask share 1 from 0 where 0 == 5 join 1 on 0 = 1;"
                + "ask share 1 from 0;");
        x.index(1, 1, 0, -1, 0);
        x.index(1, 0, -1, -1, 0);
        x.index(1, 0, 1, -1, 0);
        x.index(2, 0, -1, -1, 0);
        x.more(32, 0);
        x.more(1, 0);
        Due.is("looking through", x.way(0, 0, 4), 55);
        Due.is("together with the SCAN", x.deed(0, 0), 57);
        Due.is("an INDEX with another COLUMN first", x.way(0, 1, 4), 55);
        Due.is("by none", x.way(0, 1, 3), -1);
        Due.is("by an INDEX: 16 ROWS once", x.way(0, 2, 4), 10 + 18);
        Due.is("by it", x.way(0, 2, 3), 1);
        Due.is("by an INDEX: 16 ROWS and 17", x.way(1, 2, 4), 10 + 18 + 20);
        Due.is("by the first of alike ones", x.way(1, 6, 3), 1);
        Due.is("by the second alone", x.way(1, 4, 3), 2);
        Due.is("too little ROOM to hold it", x.way(0, 16, 4), 55);
        Due.is("ROOM to hold it", x.way(0, 48, 4), 5 + 11);
        Due.is("holding is cheaper than the INDEX", x.way(0, 50, 3), -1);
        Due.is("PAGES of it more", x.deed(0, 50), 2 + 16);
        Due.is("with itself: looking through", x.way(2, 0, 4), 30);
        Due.is("with itself: an INDEX is not cheaper", x.way(2, 8, 3), -1);
        x.row(2, 15, 0, 0, 0);
        Due.is("with itself: 16 ROWS, 2 PAGES", x.way(2, 8, 4), 32);
        x.row(2, 15, 0, 0, 0);
        Due.is("with itself: 3 PAGES", x.way(2, 0, 4), 51);
        Due.is("with itself: 15 times 3 and twice 4 is dearer", x.way(2, 8, 4), 51);
        Due.is("none of the 12 ROWS", x.way(3, 0, 4), 0);
        Due.is("no join", x.way(4, 63, 4), 0);
        Due.is("no join by an INDEX", x.way(4, 63, 3), -1);
        TunerGame y = new TunerGame();
        y.table(1);
        y.table(1);
        rows(y, 0, 0, 5);
        rows(y, 1, 0, 1);
        rows(y, 1, 1, 16);
        Due.read(y, "ask share 1 from 0 join 1 on 0 = 0;");
        y.index(1, 0, -1, -1, 0);
        Due.is("an INDEX as dear as looking through", y.way(0, 1, 4), 15);
        Due.is("it goes without", y.way(0, 1, 3), -1);
        y.row(1, 15, 0, 0, 0);
        for (int n = 0; n < 7; n++) {
            y.row(1, 15, 0, 0, 0);
        }
        Due.is("a PAGE more: it goes by the INDEX", y.way(0, 1, 3), 0);
        y.room(24);
        Due.is("one ROW too many to hold", y.way(0, 0, 4), 20);
        y.room(25);
        Due.is("held", y.way(0, 0, 4), 9);
        Due.is("held rather than by the INDEX", y.way(0, 1, 3), -1);
    }

    private static void writes() {
        TunerGame x = new TunerGame();
        x.table(2);
        x.table(1);
        Due.read(x, "write share 3 into 0 rows 100; write share 1000 into 1 rows 1;");
        x.index(0, 0, -1, -1, 0);
        x.index(1, 0, -1, -1, 0);
        x.more(5, 0);
        x.index(0, 0, -1, -1, 0);
        x.index(0, 1, 0, -1, 0);
        Due.is("no INDEX", x.deed(0, 0), 100);
        Due.is("one INDEX", x.deed(0, 1), 300);
        Due.is("an INDEX of another TABLE, and ROOM", x.deed(0, 6), 100);
        Due.is("three INDEXES", x.deed(0, 31), 700);
        Due.is("the other TABLE", x.deed(1, 31), 3);
        Due.is("COST", x.cost(31), 2100 + 3000);
        Due.is("ROWS written are not in the TABLE", x.row(0, 0, 0, 0, 0), 1);
    }

    private static void wrongInputs() {
        TunerGame x = new TunerGame();
        x.table(1);
        Due.read(x, "ask share 1 from 0; write share 1 into 0 rows 2;");
        x.more(1, 50);
        x.more(1, 50);
        for (int set : new int[] {-1, 4, Integer.MIN_VALUE, Integer.MAX_VALUE}) {
            Due.is("cost(" + set + ")", x.cost(set), -1);
            Due.is("deed(1, " + set + ")", x.deed(1, set), -1);
            Due.is("way(0, " + set + ", 0)", x.way(0, set, 0), -3);
        }
        for (int k : new int[] {-1, 2, 8, Integer.MIN_VALUE, Integer.MAX_VALUE}) {
            Due.is("deed(" + k + ", 0)", x.deed(k, 0), -1);
            Due.is("way(" + k + ", 0, 0)", x.way(k, 0, 0), -3);
        }
        for (int what : new int[] {-1, 5, Integer.MIN_VALUE, Integer.MAX_VALUE}) {
            Due.is("way(0, 0, " + what + ")", x.way(0, 0, what), -3);
        }
        for (int what = 0; what < 5; what++) {
            Due.is("way(1, 0, " + what + ") of a write", x.way(1, 0, what), -2);
        }
        Due.is("a write, and no such what", x.way(1, 0, 5), -3);
        Due.is("a write, and no such set", x.way(1, 4, 0), -3);
        Due.is("a set beyond the BUDGET", x.cost(3), 2);
        Due.is("a set beyond the BUDGET", x.deed(1, 3), 2);
    }

    /** Five ROWS to SORT: 16 a time without ROOM for them, 6 with it. */
    private static TunerGame sorter(String text) {
        TunerGame x = new TunerGame();
        x.table(1);
        rows(x, 0, 0, 5);
        Due.read(x, text);
        return x;
    }

    private static void bestByCostAndPrices() {
        TunerGame x = sorter("ask share 10 from 0 order 0; write share 1 into 0 rows 10;");
        x.index(0, 0, -1, -1, 5);
        x.more(5, 10);
        x.more(2, 1);
        x.more(3, 2);
        Due.is("nothing within the BUDGET", x.best(), 0);
        x.budget(2);
        Due.is("nothing that saves", x.best(), 0);
        x.budget(3);
        Due.is("two MOVES together", x.best(), 12);
        x.budget(800);
        Due.is("the cheaper of alike ones", x.best(), 12);
        x.room(2);
        Due.is("the least PRICES", x.best(), 8);
        x.room(5);
        Due.is("nothing left to save", x.best(), 0);
    }

    private static void bestOfAlikeOnes() {
        TunerGame x = sorter("ask share 1 from 0 order 0;");
        x.budget(100);
        x.more(2, 1);
        x.more(3, 1);
        x.more(5, 2);
        Due.is("the fewest", x.best(), 4);
        TunerGame y = sorter("ask share 1 from 0 order 0;");
        y.budget(2);
        y.more(1, 1);
        y.more(2, 1);
        y.more(3, 1);
        y.more(4, 1);
        Due.is("the first by who is in", y.best(), 9);
        TunerGame z = sorter("ask share 1 from 0 order 0;");
        z.more(1, 0);
        z.more(5, 0);
        z.more(5, 0);
        Due.is("for nothing: the fewest, the first", z.best(), 2);
        TunerGame none = sorter("");
        none.more(5, 0);
        Due.is("without DEEDS", none.best(), 0);
    }
}
