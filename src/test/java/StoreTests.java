/** Promises 1, 6 to 11 and 25: what can be told, its limits, and the counts. */
public final class StoreTests {
    public static void main(String[] args) {
        anew();
        tables();
        rows();
        roomAndBudget();
        indexes();
        more();
        counts();
        Due.end();
    }

    private static void anew() {
        TunerGame x = new TunerGame();
        for (int what = 0; what <= 8; what++) {
            Due.is("count(" + what + ") of a new object", x.count(what), what == 7 ? 1 : 0);
        }
        Due.is("place", x.place(), -1);
        Due.is("cost(0)", x.cost(0), 0);
        Due.is("cost(1)", x.cost(1), -1);
        Due.is("deed(0, 0)", x.deed(0, 0), -1);
        Due.is("way(0, 0, 0)", x.way(0, 0, 0), -3);
        Due.is("best", x.best(), 0);
        Due.is("play(0)", x.play(0), -1);
        Due.is("undo", x.undo(), -1);
        Due.is("done(0)", x.done(0), -1);
        Due.is("marks", x.marks(), 100);
        for (int i = 0; i < 6; i++) {
            Due.is("foretells", x.foretells(i), -1);
        }
        Due.is("explained(0)", x.explained(0), -1);
        Due.is("ideas", x.ideas(), 0);
        Due.is("hint", x.hint(), -1);
        Due.is("saved(0, 0)", x.saved(0, 0), -1000000);
        Due.is("row(0, ..)", x.row(0, 0, 0, 0, 0), -1);
        Due.is("index(0, ..)", x.index(0, 0, -1, -1, 0), -1);
    }

    private static void tables() {
        TunerGame x = new TunerGame();
        for (int columns : new int[] {0, -1, 5, Integer.MIN_VALUE, Integer.MAX_VALUE}) {
            Due.is("table(" + columns + ")", x.table(columns), -1);
        }
        for (int t = 0; t < 4; t++) {
            Due.is("table", x.table(t + 1), t);
        }
        Due.is("a fifth table", x.table(1), -1);
        Due.is("count(0)", x.count(0), 4);
    }

    private static void rows() {
        TunerGame x = new TunerGame();
        x.table(1);
        x.table(3);
        x.table(4);
        Due.is("row of no TABLE", x.row(3, 0, 0, 0, 0), -1);
        Due.is("row of no TABLE", x.row(-1, 0, 0, 0, 0), -1);
        Due.is("row of no TABLE", x.row(Integer.MAX_VALUE, 0, 0, 0, 0), -1);
        Due.is("row", x.row(0, 15, 0, 0, 0), 1);
        Due.is("row: b is none of its COLUMNS", x.row(0, 15, 1, 0, 0), -1);
        Due.is("row: b is none of its COLUMNS", x.row(0, 15, -1, 0, 0), -1);
        Due.is("row", x.row(1, 15, 15, 15, 0), 1);
        Due.is("row: d is none of its COLUMNS", x.row(1, 0, 0, 0, 1), -1);
        Due.is("row: a above 15", x.row(2, 16, 0, 0, 0), -1);
        Due.is("row: b above 15", x.row(2, 0, 16, 0, 0), -1);
        Due.is("row: c above 15", x.row(2, 0, 0, 16, 0), -1);
        Due.is("row: d above 15", x.row(2, 0, 0, 0, 16), -1);
        Due.is("row: a below 0", x.row(2, -1, 0, 0, 0), -1);
        Due.is("row: d below 0", x.row(2, 0, 0, 0, Integer.MIN_VALUE), -1);
        for (int n = 1; n <= 64; n++) {
            Due.is("row", x.row(2, n % 16, 0, 15, 1), n);
        }
        Due.is("a 65th row", x.row(2, 0, 0, 0, 0), -1);
        Due.is("row", x.row(0, 0, 0, 0, 0), 2);
        Due.read(x, "ask share 1 from 0; ask share 1 from 1; ask share 1 from 2; ask share 1 from 2 where 0 == 3;");
        Due.is("r of TABLE 0", x.way(0, 0, 1), 2);
        Due.is("r of TABLE 1", x.way(1, 0, 1), 1);
        Due.is("r of TABLE 2", x.way(2, 0, 1), 64);
        Due.is("r of TABLE 2 with a COND", x.way(3, 0, 1), 4);
        Due.is("a row behind the text", x.row(0, 7, 0, 0, 0), 3);
        Due.is("r with the row behind the text", x.way(0, 0, 1), 3);
    }

    private static void roomAndBudget() {
        TunerGame x = new TunerGame();
        for (int r : new int[] {0, 255, 1}) {
            Due.is("room(" + r + ")", x.room(r), true);
            Due.is("count(5)", x.count(5), r);
        }
        for (int r : new int[] {-1, 256, Integer.MIN_VALUE, Integer.MAX_VALUE}) {
            Due.is("room(" + r + ")", x.room(r), false);
            Due.is("count(5)", x.count(5), 1);
        }
        for (int b : new int[] {0, 800, 2}) {
            Due.is("budget(" + b + ")", x.budget(b), true);
            Due.is("count(6)", x.count(6), b);
        }
        for (int b : new int[] {-1, 801, Integer.MIN_VALUE, Integer.MAX_VALUE}) {
            Due.is("budget(" + b + ")", x.budget(b), false);
            Due.is("count(6)", x.count(6), 2);
        }
    }

    private static void indexes() {
        TunerGame x = new TunerGame();
        x.table(3);
        x.table(1);
        int[][] refused = {
            {2, 0, -1, -1, 0}, {-1, 0, -1, -1, 0}, {0, 3, -1, -1, 0}, {0, -1, -1, -1, 0}, {0, 0, 3, -1, 0},
            {0, 0, -2, -1, 0}, {0, 0, 1, 3, 0}, {0, 0, 1, -2, 0}, {0, 0, -1, 1, 0}, {0, 0, 0, -1, 0},
            {0, 0, 1, 0, 0}, {0, 0, 1, 1, 0}, {0, 0, -1, -1, -1}, {0, 0, -1, -1, 101}, {1, 0, 1, -1, 0},
            {0, Integer.MAX_VALUE, -1, -1, 0}, {0, 0, -1, -1, Integer.MIN_VALUE}, {Integer.MIN_VALUE, 0, -1, -1, 0},
        };
        for (int[] r : refused) {
            Due.is("index(" + java.util.Arrays.toString(r) + ")", x.index(r[0], r[1], r[2], r[3], r[4]), -1);
        }
        Due.is("no MOVES yet", x.count(2), 0);
        Due.is("index", x.index(0, 2, 1, 0, 100), 0);
        Due.is("index", x.index(0, 2, 1, -1, 0), 1);
        Due.is("index of a TABLE with one COLUMN", x.index(1, 0, -1, -1, 5), 2);
        Due.is("an INDEX like an earlier one", x.index(1, 0, -1, -1, 5), 3);
        for (int n = 4; n < 8; n++) {
            Due.is("index", x.index(0, n % 3, -1, -1, 1), n);
        }
        Due.is("a ninth MOVE", x.index(0, 0, -1, -1, 1), -1);
        Due.is("a ninth MOVE", x.more(1, 1), -1);
        Due.is("MOVES", x.count(2), 8);
    }

    private static void more() {
        TunerGame x = new TunerGame();
        int[][] refused = {{0, 0}, {65, 0}, {-1, 0}, {1, -1}, {1, 101}, {Integer.MAX_VALUE, 1}, {1, Integer.MIN_VALUE}};
        for (int[] r : refused) {
            Due.is("more(" + r[0] + ", " + r[1] + ")", x.more(r[0], r[1]), -1);
        }
        Due.is("no MOVES yet", x.count(2), 0);
        for (int n = 0; n < 8; n++) {
            Due.is("more", x.more(n == 0 ? 64 : 1, n == 0 ? 0 : 100), n);
        }
        Due.is("a ninth MOVE", x.more(1, 1), -1);
        Due.is("ROOM stays as told", x.count(5), 0);
    }

    private static void counts() {
        TunerGame x = new TunerGame();
        x.table(2);
        Due.read(x, "ask share 1 from 0; write share 1 into 0 rows 1;");
        x.room(9);
        x.budget(7);
        x.more(3, 3);
        x.more(2, 2);
        x.more(1, 2);
        x.more(4, 4);
        x.play(3);
        x.play(1);
        x.feed(1, 2, 3, 4, 5);
        int[] want = {1, 2, 4, 2, 6, 9, 7, 12, 20};
        for (int what = 0; what < want.length; what++) {
            Due.is("count(" + what + ")", x.count(what), want[what]);
        }
        for (int what : new int[] {-1, 9, Integer.MIN_VALUE, Integer.MAX_VALUE}) {
            Due.is("count(" + what + ")", x.count(what), -1);
        }
        x.budget(0);
        Due.is("PRICES of the MOVES done beyond the BUDGET", x.count(4), 6);
        Due.is("only the empty set is within a BUDGET of 0", x.count(7), 1);
        x.budget(11);
        Due.is("all sets are within the BUDGET", x.count(7), 16);
        x.budget(10);
        Due.is("all but one are within the BUDGET", x.count(7), 15);
        x.more(1, 0);
        Due.is("a MOVE for nothing doubles them", x.count(7), 30);
    }
}
