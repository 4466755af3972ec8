/** Part IV and promises 16 to 24: each sentence that names an edge, by itself. */
public final class LearnerEdges {
    private static final int[] FAR = {Integer.MIN_VALUE, -256, -2, -1, 8, 9, Integer.MAX_VALUE};

    public static void main(String[] args) {
        noneAtFirst();
        playsInARow();
        playOfNoSuch();
        playBeyondTheBudget();
        playRefused();
        undoOfTheLast();
        undoOfNone();
        doneByNumber();
        marksWholePart();
        marksBelowNothing();
        marksAboveAHundred();
        marksWithNothingToSave();
        foretellsWhatIsNotDone();
        foretellsWithinTheBudget();
        foretellsTheFirst();
        foretellsTheLeastPrice();
        foretellsTheMostColumns();
        foretellsWhatSavesMost();
        foretellsTheMostRoom();
        foretellsByTheGreatestShare();
        foretellsNothing();
        explainedWhenItWasDone();
        explainedByWhatIsToldNow();
        explainedOfNoSuch();
        ideasFewest();
        ideasOfEight();
        ideasOfWhatIsExplained();
        ideasByWhoIsIn();
        ideasWithoutMoves();
        hintSavesMost();
        hintOfAlikeOnes();
        hintOfAllDone();
        saved();
        savedOfNoSuch();
        Due.end();
    }

    private static TunerGame tables(int... widths) {
        TunerGame x = new TunerGame();
        for (int width : widths) {
            x.table(width);
        }
        x.budget(800);
        return x;
    }

    private static void rows(TunerGame x, int table, int value, int times) {
        for (int n = 0; n < times; n++) {
            x.row(table, value, 0, 0, 0);
        }
    }

    private static void text(TunerGame x, String text) {
        Due.is("read() of " + text, Due.read(x, text), 0);
    }

    /** Five ROWS to SORT: it costs 16 without ROOM for them, 6 with it. */
    private static TunerGame sorter() {
        TunerGame x = tables(3);
        rows(x, 0, 0, 5);
        text(x, "ask share 1 from 0 order 0;");
        return x;
    }

    private static TunerGame priced(int... prices) {
        TunerGame x = tables(1);
        for (int price : prices) {
            x.more(1, price);
        }
        return x;
    }

    private static void foretells(TunerGame x, int... want) {
        for (int i = 0; i < want.length; i++) {
            Due.is("foretells(" + i + ")", x.foretells(i), want[i]);
        }
    }

    private static void noneAtFirst() {
        Due.sentence("THE LEARNER has done some MOVES, in a row; none at first");
        TunerGame x = priced(1, 1, 1);
        Due.is("MOVES done", x.count(3), 0);
        Due.is("PRICES of these", x.count(4), 0);
        for (int i = 0; i < 3; i++) {
            Due.is("done(" + i + ")", x.done(i), -1);
        }
    }

    private static void playsInARow() {
        Due.sentence("The LEARNER does a MOVE: how many are done");
        TunerGame x = priced(1, 2, 3, 4, 5, 6, 7, 8);
        int[] row = {7, 0, 3, 1, 6, 2, 5, 4};
        int prices = 0;
        for (int n = 0; n < 8; n++) {
            Due.is("play(" + row[n] + ")", x.play(row[n]), n + 1);
            prices += row[n] + 1;
            Due.is("PRICES of these", x.count(4), prices);
            Due.is("the last done", x.done(n), row[n]);
        }
        for (int m = 0; m < 8; m++) {
            Due.is("play(" + m + ") again", x.play(m), -1);
        }
        Due.is("MOVES done", x.count(3), 8);
    }

    private static void playOfNoSuch() {
        Due.sentence("play: NONE: there is none such, it is done");
        TunerGame x = priced(0, 0);
        for (int move : FAR) {
            Due.is("play(" + move + ")", x.play(move), -1);
        }
        Due.is("play(2)", x.play(2), -1);
        Due.is("play(1)", x.play(1), 1);
        Due.is("play(1) again", x.play(1), -1);
        x.more(1, 0);
        Due.is("play(2) when it is told", x.play(2), 2);
        TunerGame y = priced(5);
        Due.is("play(0)", y.play(0), 1);
        y.budget(0);
        Due.is("done, and beyond the BUDGET", y.play(0), -1);
        Due.is("none such, and beyond the BUDGET", y.play(1), -1);
    }

    private static void playBeyondTheBudget() {
        Due.sentence("play: -2: beyond the BUDGET");
        TunerGame x = priced(3, 2, 3, 0);
        x.budget(2);
        Due.is("3 of 2", x.play(0), -2);
        x.budget(3);
        Due.is("3 of 3", x.play(0), 1);
        x.budget(4);
        Due.is("3 and 2 of 4", x.play(1), -2);
        x.budget(5);
        Due.is("3 and 2 of 5", x.play(1), 2);
        Due.is("3 and 2 and 3 of 5", x.play(2), -2);
        Due.is("3 and 2 and 0 of 5", x.play(3), 3);
        Due.is("undo", x.undo(), 3);
        x.budget(4);
        Due.is("3 and 2 and 0 of 4", x.play(3), -2);
        TunerGame y = priced(100, 100, 100, 100, 100, 100, 100, 100);
        for (int m = 0; m < 7; m++) {
            y.play(m);
        }
        y.budget(799);
        Due.is("800 of 799", y.play(7), -2);
        y.budget(800);
        Due.is("800 of 800", y.play(7), 8);
    }

    private static void playRefused() {
        Due.sentence("play: NONE, and nothing happens");
        for (int move : new int[] {-1, 4, 8, 0, 1, Integer.MIN_VALUE}) {
            Due.nothing("play(" + move + ")", School::made, x -> Due.is("play", x.play(move), -1));
        }
        Due.nothing("play(3)", School::made, x -> Due.is("play", x.play(3), -2));
    }

    private static void undoOfTheLast() {
        Due.sentence("The LEARNER's last MOVE is undone: it");
        TunerGame x = priced(3, 2, 1);
        x.play(1);
        x.play(2);
        x.play(0);
        x.budget(0);
        Due.is("undo beyond a lesser BUDGET", x.undo(), 0);
        Due.is("PRICES", x.count(4), 3);
        Due.is("done(2)", x.done(2), -1);
        Due.is("undo", x.undo(), 2);
        Due.is("done(0)", x.done(0), 1);
        x.budget(800);
        Due.is("it may be done again", x.play(2), 2);
        Due.is("undo", x.undo(), 2);
        Due.is("undo", x.undo(), 1);
        Due.is("MOVES done", x.count(3), 0);
        Due.nothing("play and undo", School::made, y -> {
            Due.is("play", y.play(2), 3);
            Due.is("undo", y.undo(), 2);
        });
    }

    private static void undoOfNone() {
        Due.sentence("undo: NONE: none is done");
        TunerGame x = priced(0);
        Due.is("undo", x.undo(), -1);
        x.play(0);
        Due.is("undo", x.undo(), 0);
        Due.is("undo", x.undo(), -1);
        Due.is("undo", x.undo(), -1);
        Due.is("play(0)", x.play(0), 1);
        Due.nothing("undo", () -> priced(1, 2), TunerGame::undo);
    }

    private static void doneByNumber() {
        Due.sentence("The i-th MOVE that the LEARNER has done; NONE: not so many");
        TunerGame x = priced(1, 1, 1, 1, 1, 1, 1, 1);
        for (int n = 0; n < 8; n++) {
            Due.is("done(" + n + ") ahead of it", x.done(n), -1);
            x.play(7 - n);
            Due.is("done(" + n + ")", x.done(n), 7 - n);
            Due.is("done(0)", x.done(0), 7);
            Due.is("done(" + (n + 1) + ")", x.done(n + 1), -1);
        }
        for (int i : FAR) {
            Due.is("done(" + i + ")", x.done(i), -1);
        }
    }

    /** Two ROWS to SORT once, one ROW a thousand times: 4 and 2000 are saved by ROOM for them. */
    private static TunerGame thousand() {
        TunerGame x = tables(1);
        x.row(0, 0, 0, 0, 0);
        x.row(0, 1, 0, 0, 0);
        text(x, "ask share 1 from 0 order 0; ask share 1000 from 0 where 0 == 0 order 0;");
        return x;
    }

    private static void marksWholePart() {
        Due.sentence("MARKS: 100 times what COST is saved by them, by what is saved by THE BEST, the whole part");
        TunerGame x = thousand();
        x.more(1, 1);
        x.more(1, 1);
        Due.is("nothing", x.marks(), 0);
        x.play(1);
        Due.is("2000 of 2004", x.marks(), 99);
        x.play(0);
        Due.is("2004 of 2004", x.marks(), 100);
        TunerGame y = tables(1);
        for (int n = 0; n < 3; n++) {
            y.row(0, n, 0, 0, 0);
        }
        text(y, "ask share 1 from 0 order 0; ask share 1 from 0 where 0 < 2 order 0; ask share 1 from 0 where 0 < 1 order 0;");
        y.more(1, 1);
        y.more(1, 1);
        y.more(1, 1);
        int[] want = {0, 16, 50, 100};
        for (int n = 0; n < 3; n++) {
            Due.is("with " + n, y.marks(), want[n]);
            y.play(n);
        }
        Due.is("with all", y.marks(), 100);
        y.undo();
        y.budget(2);
        Due.is("THE BEST of a lesser BUDGET", y.marks(), 100);
    }

    private static void marksBelowNothing() {
        Due.sentence("MARKS: below 0: 0");
        TunerGame x = sorter();
        text(x, "ask share 1 from 0 order 0; write share 1 into 0 rows 1;");
        x.more(5, 1);
        for (int m = 0; m < 6; m++) {
            x.index(0, 0, -1, -1, 1);
        }
        x.play(1);
        Due.is("2 more of 10", x.marks(), 0);
        x.play(0);
        Due.is("8 of 10", x.marks(), 80);
        for (int m = 2; m < 6; m++) {
            x.play(m);
        }
        Due.is("0 of 10", x.marks(), 0);
        x.play(6);
        Due.is("2 more of 10", x.marks(), 0);
        text(x, "ask share 1 from 0 order 0; write share 1000 into 0 rows 100;");
        Due.is("much more", x.marks(), 0);
    }

    private static void marksAboveAHundred() {
        Due.sentence("MARKS: above 100, which it is if the BUDGET became less: 100");
        TunerGame x = thousand();
        x.more(1, 1);
        x.more(1, 1);
        x.play(0);
        x.play(1);
        x.budget(1);
        Due.is("2004 of 2000", x.marks(), 100);
        TunerGame y = tables(1);
        y.row(0, 0, 0, 0, 0);
        y.row(0, 1, 0, 0, 0);
        text(y, "ask share 1000 from 0 order 0; ask share 1 from 0 where 0 == 0 order 0;");
        y.more(1, 1);
        y.more(1, 1);
        y.play(0);
        y.play(1);
        Due.is("4002 of 4002", y.marks(), 100);
        y.budget(1);
        Due.is("4002 of 2", y.marks(), 100);
    }

    private static void marksWithNothingToSave() {
        Due.sentence("MARKS: if THE BEST saves nothing: 100, or 0, if they cost more than without any");
        TunerGame x = sorter();
        text(x, "ask share 1 from 0 order 0; write share 1 into 0 rows 1;");
        x.more(5, 10);
        x.index(0, 0, -1, -1, 3);
        x.more(1, 1);
        x.budget(9);
        Due.is("none done", x.marks(), 100);
        x.play(2);
        Due.is("they cost the same", x.marks(), 100);
        x.play(1);
        Due.is("they cost more", x.marks(), 0);
        x.budget(0);
        Due.is("they cost more, beyond the BUDGET", x.marks(), 0);
        x.undo();
        x.budget(11);
        x.play(0);
        Due.is("all is saved", x.marks(), 100);
        x.budget(9);
        Due.is("they save, beyond the BUDGET", x.marks(), 100);
        marksOfOne();
        TunerGame y = priced(1);
        Due.is("no DEEDS", y.marks(), 100);
        y.play(0);
        Due.is("no DEEDS, a MOVE done", y.marks(), 100);
        Due.is("nothing at all", new TunerGame().marks(), 100);
    }

    /** An INDEX that saves 1 of an ask's 8, and costs 2 more if there is a write. */
    private static void marksOfOne() {
        TunerGame x = tables(1);
        rows(x, 0, 3, 5);
        rows(x, 0, 7, 59);
        text(x, "ask share 1 from 0 where 0 == 3;");
        x.more(1, 1);
        x.index(0, 0, -1, -1, 1);
        Due.is("THE BEST saves 1, none done", x.marks(), 0);
        x.play(0);
        Due.is("THE BEST saves 1, they nothing", x.marks(), 0);
        x.play(1);
        Due.is("1 of 1", x.marks(), 100);
        x.budget(0);
        Due.is("THE BEST saves nothing, they 1", x.marks(), 100);
        text(x, "ask share 1 from 0 where 0 == 3; write share 1 into 0 rows 1;");
        Due.is("THE BEST saves nothing, they cost 1 more", x.marks(), 0);
        x.budget(800);
        Due.is("so with any BUDGET", x.marks(), 0);
        x.undo();
        Due.is("THE BEST saves nothing, nor do they", x.marks(), 100);
    }

    private static void foretellsWhatIsNotDone() {
        Due.sentence("of the MOVES that are not done");
        TunerGame x = sorter();
        x.index(0, 0, 1, 2, 0);
        x.more(5, 1);
        x.index(0, 0, 1, -1, 2);
        x.more(4, 3);
        x.index(0, 0, -1, -1, 4);
        foretells(x, 0, 0, 0, 1, 1, 0);
        x.play(0);
        foretells(x, 1, 1, 2, 1, 1, 2);
        x.play(1);
        foretells(x, 2, 2, 2, 2, 3, 2);
        x.play(2);
        foretells(x, 3, 3, 4, 3, 3, 4);
        x.play(3);
        foretells(x, 4, 4, 4, 4, -1, 4);
        x.play(4);
        foretells(x, -1, -1, -1, -1, -1, -1);
        x.undo();
        foretells(x, 4, 4, 4, 4, -1, 4);
    }

    private static void foretellsWithinTheBudget() {
        Due.sentence("and stay within the BUDGET");
        TunerGame x = sorter();
        x.index(0, 0, 1, 2, 7);
        x.more(5, 7);
        x.index(0, 0, -1, -1, 6);
        x.more(4, 6);
        x.more(1, 1);
        x.budget(7);
        foretells(x, 0, 4, 0, 1, 1, 0);
        x.budget(6);
        foretells(x, 2, 4, 2, 2, 3, 2);
        x.budget(5);
        foretells(x, 4, 4, -1, 4, 4, -1);
        x.budget(0);
        foretells(x, -1, -1, -1, -1, -1, -1);
        x.budget(7);
        x.play(4);
        foretells(x, 2, 2, 2, 3, 3, 2);
        x.budget(8);
        foretells(x, 0, 2, 0, 1, 1, 0);
        x.budget(0);
        x.more(1, 0);
        foretells(x, -1, -1, -1, -1, -1, -1);
    }

    private static void foretellsTheFirst() {
        Due.sentence("0: the first");
        TunerGame x = priced(3, 2, 1);
        int[] want = {-1, 2, 1, 0, 0};
        for (int b = 0; b < want.length; b++) {
            x.budget(b);
            Due.is("BUDGET " + b, x.foretells(0), want[b]);
        }
        x.budget(6);
        x.play(1);
        Due.is("1 done", x.foretells(0), 0);
        x.play(0);
        Due.is("1 and 0 done", x.foretells(0), 2);
    }

    private static void foretellsTheLeastPrice() {
        Due.sentence("1: the one with the least PRICE; of alike ones the least number");
        TunerGame x = priced(100, 2, 2, 0, 0);
        int[] want = {3, 4, 1, 2, 0, -1};
        for (int move : want) {
            Due.is("foretells(1)", x.foretells(1), move);
            x.play(move);
        }
        TunerGame y = priced(5);
        y.index(0, 0, -1, -1, 4);
        Due.is("an INDEX", y.foretells(1), 1);
    }

    private static void foretellsTheMostColumns() {
        Due.sentence("2: the INDEX with the most COLUMNS; of alike ones the least number");
        TunerGame x = tables(3, 1);
        x.more(64, 0);
        Due.is("ROOM alone", x.foretells(2), -1);
        x.index(1, 0, -1, -1, 0);
        Due.is("one COLUMN", x.foretells(2), 1);
        x.index(0, 0, -1, -1, 0);
        Due.is("alike ones of two TABLES", x.foretells(2), 1);
        x.index(0, 2, 1, -1, 0);
        Due.is("two COLUMNS", x.foretells(2), 3);
        x.index(0, 0, 1, -1, 0);
        Due.is("alike ones", x.foretells(2), 3);
        x.index(0, 2, 1, 0, 100);
        Due.is("three COLUMNS", x.foretells(2), 5);
        x.play(5);
        Due.is("three are done", x.foretells(2), 3);
    }

    private static void foretellsWhatSavesMost() {
        Due.sentence("3: the one that saves most now, alone; of alike ones the least number");
        TunerGame x = sorter();
        x.more(1, 0);
        x.more(4, 1);
        x.more(5, 9);
        Due.is("10 saved", x.foretells(3), 2);
        x.budget(8);
        Due.is("nothing saved by either", x.foretells(3), 0);
        x.play(0);
        Due.is("10 saved with the ROOM that is done", x.foretells(3), 1);
        x.budget(800);
        Due.is("10 saved by either", x.foretells(3), 1);
        TunerGame y = tables(1, 1);
        text(y, "write share 2 into 0 rows 10; write share 1 into 1 rows 10;");
        y.index(0, 0, -1, -1, 0);
        Due.is("the only one, which costs 40 more", y.foretells(3), 0);
        y.index(1, 0, -1, -1, 0);
        Due.is("the one that costs only 20 more", y.foretells(3), 1);
        y.more(1, 0);
        Due.is("the one that costs nothing more", y.foretells(3), 2);
    }

    private static void foretellsTheMostRoom() {
        Due.sentence("4: the most ROOM; of alike ones the least number");
        TunerGame x = tables(3);
        x.index(0, 0, 1, 2, 0);
        Due.is("an INDEX alone", x.foretells(4), -1);
        x.more(1, 0);
        Due.is("the only ROOM", x.foretells(4), 1);
        x.more(64, 9);
        x.more(63, 0);
        x.more(64, 0);
        Due.is("alike ones", x.foretells(4), 2);
        x.budget(8);
        Due.is("the other of alike ones", x.foretells(4), 4);
        x.play(4);
        Due.is("the next", x.foretells(4), 3);
    }

    private static void foretellsByTheGreatestShare() {
        Due.sentence("5: an INDEX of the TABLE of the ask with the greatest share (the first such ask)");
        TunerGame x = tables(1, 2, 1);
        x.more(1, 0);
        x.index(0, 0, -1, -1, 9);
        x.index(1, 0, -1, -1, 8);
        x.index(1, 0, 1, -1, 7);
        x.index(0, 0, -1, -1, 6);
        Due.is("no ask", x.foretells(5), -1);
        text(x, "write share 1000 into 0 rows 1;");
        Due.is("a write alone", x.foretells(5), -1);
        text(x, "ask share 0 from 1;");
        Due.is("a share of 0, alike INDEXES", x.foretells(5), 2);
        text(x, "write share 1000 into 0 rows 1; ask share 7 from 1; ask share 7 from 0; ask share 6 from 2;");
        Due.is("the first of alike shares", x.foretells(5), 2);
        text(x, "ask share 7 from 1; ask share 8 from 0 join 1 on 0 = 0; ask share 8 from 1;");
        Due.is("the greatest share, the TABLE behind from", x.foretells(5), 1);
        x.budget(8);
        Due.is("within the BUDGET", x.foretells(5), 4);
        text(x, "ask share 1000 from 2; ask share 999 from 1;");
        Due.is("no INDEX of that TABLE", x.foretells(5), -1);
        text(x, "ask share 1000 from 1;");
        x.budget(800);
        x.play(2);
        Due.is("the next INDEX of it", x.foretells(5), 3);
        x.play(3);
        Due.is("all INDEXES of it are done", x.foretells(5), -1);
    }

    private static void foretellsNothing() {
        Due.sentence("What IDEA i (0 .. 5) foretells now; NONE: nothing, no such one");
        TunerGame x = tables(1);
        foretells(x, -1, -1, -1, -1, -1, -1);
        x.more(1, 0);
        foretells(x, 0, 0, -1, 0, 0, -1);
        x.index(0, 0, -1, -1, 0);
        foretells(x, 0, 0, 1, 0, 0, -1);
        for (int i : new int[] {-2, -1, 6, 7, 32, Integer.MIN_VALUE, Integer.MAX_VALUE}) {
            Due.is("foretells(" + i + ")", x.foretells(i), -1);
        }
    }

    private static void explainedWhenItWasDone() {
        Due.sentence("A MOVE of the LEARNER is EXPLAINED by the IDEAS that foretold it when it was done");
        TunerGame x = sorter();
        x.index(0, 0, 1, 2, 2);
        x.more(6, 3);
        x.more(2, 0);
        x.play(1);
        Due.is("saves most, most ROOM", x.explained(0), 8 + 16);
        x.play(2);
        Due.is("least PRICE, most ROOM", x.explained(1), 2 + 16);
        x.play(0);
        Due.is("all but most ROOM", x.explained(2), 1 + 2 + 4 + 8 + 32);
        Due.is("the first yet", x.explained(0), 8 + 16);
        Due.is("the second yet", x.explained(1), 2 + 16);
        for (int n = 0; n < 3; n++) {
            x.undo();
        }
        x.play(0);
        x.play(2);
        x.play(1);
        Due.is("first, most COLUMNS, of the ask's TABLE", x.explained(0), 1 + 4 + 32);
        Due.is("least PRICE", x.explained(1), 2);
        Due.is("the last one", x.explained(2), 1 + 2 + 8 + 16);
    }

    private static void explainedByWhatIsToldNow() {
        Due.sentence("EXPLAINED (by all that is told now)");
        TunerGame x = sorter();
        x.more(5, 3);
        x.play(0);
        Due.is("the only MOVE", x.explained(0), 1 + 2 + 8 + 16);
        x.more(6, 2);
        Due.is("a MOVE with more ROOM for less", x.explained(0), 1 + 8);
        rows(x, 0, 0, 1);
        Due.is("a ROW that only the other holds", x.explained(0), 1);
        x.room(6);
        Due.is("ROOM for all without either", x.explained(0), 1 + 8);
        x.room(0);
        text(x, "");
        Due.is("no DEEDS", x.explained(0), 1 + 8);
        x.budget(2);
        Due.is("a BUDGET that has it not", x.explained(0), 0);
        x.budget(3);
        Due.is("a BUDGET that has it", x.explained(0), 1 + 8);
        TunerGame y = tables(1, 1);
        y.index(0, 0, -1, -1, 0);
        y.play(0);
        Due.is("no ask", y.explained(0), 1 + 2 + 4 + 8);
        text(y, "ask share 1 from 0;");
        Due.is("an ask", y.explained(0), 1 + 2 + 4 + 8 + 32);
        text(y, "ask share 1 from 1; ask share 1 from 0;");
        Due.is("an ask ahead", y.explained(0), 1 + 2 + 4 + 8);
    }

    private static void explainedOfNoSuch() {
        Due.sentence("explained: NONE: not so many");
        TunerGame x = priced(1, 1, 1);
        Due.is("explained(0) of none", x.explained(0), -1);
        x.play(2);
        Due.is("explained(0)", x.explained(0), 0);
        Due.is("explained(1)", x.explained(1), -1);
        for (int i : FAR) {
            Due.is("explained(" + i + ")", x.explained(i), -1);
        }
        x.undo();
        Due.is("explained(0) behind undo", x.explained(0), -1);
    }

    private static void ideasFewest() {
        Due.sentence("The fewest IDEAS (bits) of which one at least EXPLAINS each MOVE");
        TunerGame x = sorter();
        x.index(0, 0, 1, 2, 2);
        x.more(6, 3);
        x.more(2, 0);
        x.play(1);
        x.play(2);
        Due.is("4 alone rather than 1 and 3", x.ideas(), 16);
        x.play(0);
        Due.is("two", Integer.bitCount(x.ideas()), 2);
        TunerGame y = sorter();
        y.more(1, 9);
        y.more(9, 8);
        y.index(0, 0, 1, -1, 7);
        y.index(0, 0, 1, 2, 6);
        y.more(2, 1);
        y.play(4);
        Due.is("by 1", y.explained(0), 2);
        y.play(1);
        Due.is("by 3 and 4", y.explained(1), 8 + 16);
        y.play(2);
        Due.is("by 5", y.explained(2), 32);
        y.play(0);
        Due.is("by 0, 3 and 4", y.explained(3), 1 + 8 + 16);
        Due.is("1, 3 and 5", y.ideas(), 2 + 8 + 32);
    }

    private static void ideasOfEight() {
        Due.sentence("ideas: each MOVE, of eight");
        TunerGame x = priced(8, 7, 6, 5, 4, 3, 2, 1);
        for (int m = 7; m > 0; m--) {
            x.play(m);
            Due.is("least PRICE", x.explained(7 - m), 2);
        }
        Due.is("ideas of seven", x.ideas(), 2);
        x.play(0);
        Due.is("the only one left", x.explained(7), 1 + 2 + 8 + 16);
        Due.is("ideas of eight", x.ideas(), 2);
        TunerGame y = priced(8, 7, 6, 5, 4, 3, 2);
        y.index(0, 0, -1, -1, 1);
        for (int m = 0; m < 8; m++) {
            y.play(m);
        }
        Due.is("first of all", y.ideas(), 1);
        y.undo();
        y.undo();
        y.play(7);
        y.play(6);
        Due.is("first and least PRICE of all", y.ideas(), 3);
    }

    private static void ideasOfWhatIsExplained() {
        Due.sentence("each MOVE that is EXPLAINED by any");
        TunerGame x = sorter();
        x.index(0, 0, -1, -1, 5);
        x.more(5, 10);
        x.more(2, 1);
        x.more(3, 2);
        x.play(3);
        Due.is("by none", x.explained(0), 0);
        Due.is("of a MOVE that none EXPLAINS", x.ideas(), 0);
        x.play(1);
        Due.is("by 3 and 4", x.explained(1), 8 + 16);
        Due.is("of the other", x.ideas(), 8);
        x.budget(0);
        Due.is("of none with a BUDGET of 0", x.ideas(), 0);
    }

    private static void ideasByWhoIsIn() {
        Due.sentence("of as few the first by who is in (the least IDEA that is not in both)");
        TunerGame x = sorter();
        x.index(0, 0, 1, 2, 2);
        x.more(6, 3);
        x.more(2, 0);
        x.play(1);
        Due.is("3 rather than 4", x.ideas(), 8);
        x.play(2);
        x.play(0);
        Due.is("0 and 4 rather than 1 and 3", x.ideas(), 1 + 16);
    }

    private static void ideasWithoutMoves() {
        Due.sentence("ideas: 0 without MOVES");
        Due.is("a new object", new TunerGame().ideas(), 0);
        TunerGame x = priced(1, 1);
        Due.is("none done", x.ideas(), 0);
        x.play(0);
        Due.is("one done", x.ideas(), 1);
        x.undo();
        Due.is("none done again", x.ideas(), 0);
    }

    /** Two TABLES of 8 PAGES, an ask of each that an INDEX makes cheaper by 7. */
    private static TunerGame twins(int share, int otherShare) {
        TunerGame x = tables(2, 2);
        rows(x, 0, 0, 64);
        rows(x, 1, 0, 64);
        text(x, "ask share " + share + " from 0 where 0 == 3; ask share " + otherShare + " from 1 where 0 == 3;");
        x.index(0, 0, -1, -1, 1);
        x.index(1, 0, -1, -1, 1);
        return x;
    }

    private static void hintSavesMost() {
        Due.sentence("the MOVE of THE BEST that is not done, that saves most alone now");
        TunerGame x = twins(1, 2);
        Due.is("14 rather than 7", x.hint(), 1);
        x.play(1);
        Due.is("what is not done", x.hint(), 0);
        x.undo();
        x.play(0);
        Due.is("what is not done", x.hint(), 1);
        TunerGame y = twins(2, 1);
        y.index(1, 0, 1, -1, 0);
        Due.is("THE BEST", y.best(), 5);
        Due.is("14 rather than 7", y.hint(), 0);
        y.play(0);
        Due.is("only of THE BEST", y.hint(), 2);
        TunerGame z = sorter();
        z.more(2, 1);
        z.more(3, 1);
        z.more(5, 100);
        z.play(1);
        Due.is("what saves with what is done", z.hint(), 0);
        TunerGame over = twins(1, 0);
        text(over, "ask share 1 from 0 where 0 == 3; write share 1 into 0 rows 1;");
        over.index(0, 0, 1, -1, 9);
        over.play(2);
        Due.is("THE BEST", over.best(), 1);
        Due.is("though it costs 2 more now", over.hint(), 0);
        over.budget(1);
        Due.is("though it is beyond the BUDGET with what is done", over.hint(), 0);
    }

    private static void hintOfAlikeOnes() {
        Due.sentence("hint: of alike ones the least number");
        TunerGame x = twins(3, 3);
        Due.is("7 times 3 by either", x.hint(), 0);
        TunerGame y = sorter();
        y.more(1, 1);
        y.more(2, 1);
        y.more(2, 1);
        Due.is("nothing by any alone", y.hint(), 0);
        y.play(0);
        Due.is("nothing by either alone", y.hint(), 1);
    }

    private static void hintOfAllDone() {
        Due.sentence("hint: NONE: all are done");
        TunerGame x = twins(1, 2);
        x.play(0);
        x.play(1);
        Due.is("all are done", x.hint(), -1);
        x.undo();
        Due.is("one is not", x.hint(), 1);
        x.budget(0);
        Due.is("THE BEST has none", x.hint(), -1);
        Due.is("no MOVES", new TunerGame().hint(), -1);
        TunerGame y = twins(0, 0);
        Due.is("nothing to save", y.hint(), -1);
        TunerGame z = twins(1, 2);
        z.budget(1);
        z.play(1);
        Due.is("all of THE BEST, not all MOVES", z.hint(), -1);
    }

    private static void saved() {
        Due.sentence("How much less (below 0: more) DEED k costs, times its share, with the first i + 1 MOVES than with the first i");
        TunerGame x = sorter();
        text(x, "ask share 10 from 0 order 0; write share 1000 into 0 rows 100; ask share 0 from 0 order 0;");
        x.more(2, 0);
        x.index(0, 0, -1, -1, 0);
        x.more(3, 0);
        x.more(5, 0);
        for (int m = 0; m < 4; m++) {
            x.play(m);
        }
        int[][] want = {{0, 0, 0}, {0, -200000, 0}, {100, 0, 0}, {0, 0, 0}};
        for (int i = 0; i < 4; i++) {
            for (int k = 0; k < 3; k++) {
                Due.is("saved(" + i + ", " + k + ")", x.saved(i, k), want[i][k]);
            }
        }
        for (int n = 0; n < 4; n++) {
            x.undo();
        }
        x.play(3);
        x.play(0);
        Due.is("in another row", x.saved(0, 0), 100);
        Due.is("nothing left to save", x.saved(1, 0), 0);
        x.room(5);
        Due.is("by all that is told now", x.saved(0, 0), 0);
        x.budget(0);
        Due.is("beyond the BUDGET", x.saved(1, 0), 0);
    }

    private static void savedOfNoSuch() {
        Due.sentence("saved: -1000000: no such ones");
        TunerGame x = sorter();
        x.more(5, 0);
        Due.is("none done", x.saved(0, 0), -1000000);
        x.play(0);
        Due.is("saved(0, 0)", x.saved(0, 0), 10);
        Due.is("saved(1, 0)", x.saved(1, 0), -1000000);
        Due.is("saved(0, 1)", x.saved(0, 1), -1000000);
        for (int none : FAR) {
            Due.is("saved(" + none + ", 0)", x.saved(none, 0), -1000000);
            Due.is("saved(0, " + none + ")", x.saved(0, none), -1000000);
        }
        text(x, "");
        Due.is("no DEEDS", x.saved(0, 0), -1000000);
        TunerGame y = priced(0, 0, 0, 0, 0, 0, 0, 0);
        text(y, "write share 1 into 0 rows 1;".repeat(8));
        for (int m = 0; m < 8; m++) {
            y.play(m);
        }
        Due.is("saved(7, 7)", y.saved(7, 7), 0);
        Due.is("saved(8, 7)", y.saved(8, 7), -1000000);
        Due.is("saved(7, 8)", y.saved(7, 8), -1000000);
    }
}
