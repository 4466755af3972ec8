/** Promises 16 to 24: the LEARNER's MOVES, MARKS, IDEAS, hints and what was saved. */
public final class LearnerTests {
    public static void main(String[] args) {
        playAndUndo();
        marks();
        marksWithNothingToSave();
        foretells();
        foretellsTheLeastLoss();
        foretellsByAsk();
        explained();
        ideas();
        hint();
        saved();
        Due.end();
    }

    /** Five ROWS to SORT, ten times 16 without ROOM for them and ten times 6 with it; an INDEX costs 20 more. */
    private static TunerGame sorter() {
        TunerGame x = new TunerGame();
        x.table(1);
        for (int n = 0; n < 5; n++) {
            x.row(0, 0, 0, 0, 0);
        }
        Due.read(x, "ask share 10 from 0 order 0; write share 1 into 0 rows 10;");
        x.index(0, 0, -1, -1, 5);
        x.more(5, 10);
        x.more(2, 1);
        x.more(3, 2);
        return x;
    }

    private static void playAndUndo() {
        TunerGame x = sorter();
        x.budget(13);
        for (int move : new int[] {-1, 4, 8, Integer.MIN_VALUE, Integer.MAX_VALUE}) {
            Due.is("play(" + move + ")", x.play(move), -1);
        }
        Due.is("undo of none", x.undo(), -1);
        Due.is("play(1)", x.play(1), 1);
        Due.is("play(1) again", x.play(1), -1);
        Due.is("play(0) beyond the BUDGET", x.play(0), -2);
        Due.is("play(3)", x.play(3), 2);
        Due.is("play(2) up to the BUDGET", x.play(2), 3);
        Due.is("done(0)", x.done(0), 1);
        Due.is("done(1)", x.done(1), 3);
        Due.is("done(2)", x.done(2), 2);
        for (int i : new int[] {-1, 3, 8, Integer.MIN_VALUE, Integer.MAX_VALUE}) {
            Due.is("done(" + i + ")", x.done(i), -1);
        }
        Due.is("undo", x.undo(), 2);
        Due.is("undo", x.undo(), 3);
        Due.is("done(1) behind undo", x.done(1), -1);
        Due.is("play(2) again", x.play(2), 2);
        x.budget(10);
        x.more(1, 0);
        Due.is("a MOVE for nothing beyond a lesser BUDGET", x.play(4), -2);
        Due.is("done ahead of beyond", x.play(2), -1);
        Due.is("undo beyond a lesser BUDGET", x.undo(), 2);
        Due.is("a MOVE for nothing within it", x.play(4), 2);
    }

    private static void marks() {
        TunerGame x = sorter();
        x.budget(18);
        Due.is("nothing done", x.marks(), 0);
        x.play(0);
        Due.is("they cost more", x.marks(), 0);
        x.play(1);
        Due.is("80 of 100", x.marks(), 80);
        x.undo();
        x.undo();
        x.play(2);
        Due.is("saves nothing yet", x.marks(), 0);
        x.play(3);
        Due.is("all", x.marks(), 100);
        TunerGame y = new TunerGame();
        y.table(1);
        for (int n = 0; n < 3; n++) {
            y.row(0, n, 0, 0, 0);
        }
        Due.read(y, "ask share 1 from 0 order 0; ask share 1 from 0 where 0 < 2 order 0;"
                + "ask share 1 from 0 where 0 < 1 order 0;");
        y.budget(100);
        y.more(1, 1);
        y.more(1, 1);
        y.more(1, 1);
        y.play(1);
        Due.is("2 of 12: the whole part", y.marks(), 16);
        y.play(2);
        Due.is("6 of 12", y.marks(), 50);
        y.budget(1);
        Due.is("above 100 with a lesser BUDGET", y.marks(), 100);
    }

    private static void marksWithNothingToSave() {
        TunerGame x = sorter();
        x.budget(10);
        x.play(1);
        x.budget(2);
        Due.is("THE BEST saves nothing, they saved", x.marks(), 100);
        x.undo();
        Due.is("THE BEST saves nothing, nothing done", x.marks(), 100);
        x.play(2);
        Due.is("THE BEST saves nothing, neither do they", x.marks(), 100);
        x.undo();
        x.budget(5);
        x.play(0);
        x.budget(2);
        Due.is("THE BEST saves nothing, they cost more", x.marks(), 0);
    }

    private static void foretells() {
        TunerGame x = new TunerGame();
        x.table(3);
        x.table(1);
        for (int n = 0; n < 16; n++) {
            x.row(0, n, n % 4, 0, 0);
        }
        Due.read(x, "ask share 5 from 0 where 1 == 2 order 0; ask share 9 from 0 where 0 == 3; write share 1 into 1 rows 1;");
        x.budget(12);
        x.index(1, 0, -1, -1, 3);
        x.more(2, 3);
        x.index(0, 0, 1, -1, 2);
        x.index(0, 1, 0, -1, 4);
        x.more(4, 2);
        x.more(4, 13);
        int[] want = {0, 2, 2, 3, 4, 2};
        for (int i = 0; i < 6; i++) {
            Due.is("foretells(" + i + ")", x.foretells(i), want[i]);
        }
        for (int i : new int[] {-1, 6, Integer.MIN_VALUE, Integer.MAX_VALUE}) {
            Due.is("foretells(" + i + ")", x.foretells(i), -1);
        }
        x.play(0);
        x.play(2);
        x.play(3);
        int[] then = {1, 4, -1, 1, 4, -1};
        for (int i = 0; i < 6; i++) {
            Due.is("foretells(" + i + ") with three done", x.foretells(i), then[i]);
        }
        x.budget(11);
        Due.is("only what stays within the BUDGET", x.foretells(0), 4);
        x.budget(10);
        Due.is("nothing stays within it", x.foretells(0), -1);
        x.budget(800);
        Due.is("the first of as much ROOM", x.foretells(4), 4);
        x.play(4);
        Due.is("the ROOM that is not done", x.foretells(4), 5);
    }

    /** What saves most may save nothing, or cost more. */
    private static void foretellsTheLeastLoss() {
        TunerGame x = new TunerGame();
        x.table(1);
        x.table(1);
        Due.read(x, "write share 2 into 0 rows 10; write share 1 into 1 rows 10;");
        x.index(0, 0, -1, -1, 0);
        x.index(1, 0, -1, -1, 0);
        Due.is("the least loss", x.foretells(3), 1);
        Due.is("no ask", x.foretells(5), -1);
        Due.is("no ROOM", x.foretells(4), -1);
        x.more(1, 0);
        Due.is("nothing saved, nothing lost", x.foretells(3), 2);
    }

    private static void foretellsByAsk() {
        TunerGame x = new TunerGame();
        x.table(1);
        x.table(1);
        x.table(1);
        x.index(0, 0, -1, -1, 0);
        x.index(1, 0, -1, -1, 0);
        x.more(1, 0);
        x.index(1, 0, -1, -1, 0);
        Due.is("no ask", x.foretells(5), -1);
        Due.read(x, "write share 1000 into 0 rows 1; ask share 7 from 1; ask share 7 from 0;");
        Due.is("the first of the greatest shares", x.foretells(5), 1);
        Due.read(x, "ask share 6 from 1 join 0 on 0 = 0; ask share 7 from 0;");
        Due.is("the greatest share", x.foretells(5), 0);
        Due.read(x, "ask share 0 from 1 join 0 on 0 = 0;");
        Due.is("the TABLE behind from, a share of 0", x.foretells(5), 1);
        x.play(1);
        Due.is("the one that is not done", x.foretells(5), 3);
        x.play(3);
        Due.is("none is left", x.foretells(5), -1);
        Due.read(x, "ask share 5 from 2; ask share 1 from 0;");
        Due.is("no INDEX of that TABLE", x.foretells(5), -1);
    }

    private static void explained() {
        TunerGame x = sorter();
        x.budget(20);
        x.play(3);
        x.play(1);
        for (int i : new int[] {-1, 2, Integer.MIN_VALUE, Integer.MAX_VALUE}) {
            Due.is("explained(" + i + ")", x.explained(i), -1);
        }
        Due.is("by none", x.explained(0), 0);
        Due.is("saves most, most ROOM", x.explained(1), 24);
        Due.is("undo", x.undo(), 1);
        Due.is("undo", x.undo(), 3);
        x.play(0);
        x.play(2);
        Due.is("first, widest, of the ask's TABLE", x.explained(0), 1 + 4 + 32);
        Due.is("cheapest", x.explained(1), 2);
        x.more(1, 0);
        Due.is("by all that is told now: a cheaper MOVE", x.explained(1), 0);
        Due.read(x, "");
        Due.is("by all that is told now: no DEEDS", x.explained(0), 1 + 4 + 8);
        x.budget(4);
        Due.is("by all that is told now: the BUDGET", x.explained(0), 0);
    }

    private static void ideas() {
        TunerGame x = sorter();
        x.budget(20);
        Due.is("without MOVES", x.ideas(), 0);
        x.play(3);
        Due.is("of a MOVE that none EXPLAINS", x.ideas(), 0);
        x.play(1);
        Due.is("the first of 3 and 4", x.ideas(), 8);
        x.play(0);
        Due.is("0 and 3", x.ideas(), 9);
        Due.is("EXPLAINED by", x.explained(2), 1 + 4 + 32);
        TunerGame y = sorter();
        y.budget(20);
        y.play(2);
        Due.is("the cheapest", y.explained(0), 2);
        y.play(0);
        Due.is("1 and the first of 0, 2, 5", y.ideas(), 3);
        y.play(3);
        Due.is("1 has that too", y.explained(2) & 2, 2);
        Due.is("1 and the first of 0, 2, 5", y.ideas(), 3);
    }

    private static void hint() {
        TunerGame x = sorter();
        Due.is("THE BEST is empty", x.hint(), -1);
        x.budget(3);
        Due.is("of alike ones the least number", x.hint(), 2);
        x.play(2);
        Due.is("the other", x.hint(), 3);
        x.undo();
        x.play(3);
        Due.is("the other", x.hint(), 2);
        x.play(2);
        Due.is("all are done", x.hint(), -1);
        TunerGame y = sorter();
        y.room(1);
        y.budget(15);
        y.play(0);
        y.play(1);
        y.budget(3);
        Due.is("though it does not stay within the BUDGET", y.hint(), 2);
        TunerGame z = new TunerGame();
        z.table(2);
        for (int n = 0; n < 16; n++) {
            z.row(0, n, 15 - n, 0, 0);
        }
        Due.read(z, "ask share 1 from 0 where 0 < 1 order 1; ask share 9 from 0 where 1 < 1 order 0;");
        z.budget(100);
        z.index(0, 0, 1, -1, 1);
        z.index(0, 1, 0, -1, 1);
        z.more(1, 1);
        Due.is("the one that saves most alone", z.hint(), 2);
    }

    private static void saved() {
        TunerGame x = sorter();
        x.budget(20);
        x.play(0);
        x.play(2);
        x.play(3);
        Due.is("saved(0, 0)", x.saved(0, 0), 0);
        Due.is("saved(0, 1): more", x.saved(0, 1), -20);
        Due.is("saved(1, 0)", x.saved(1, 0), 0);
        Due.is("saved(2, 0)", x.saved(2, 0), 100);
        Due.is("saved(2, 1)", x.saved(2, 1), 0);
        for (int wrong : new int[] {-1, 3, Integer.MIN_VALUE, Integer.MAX_VALUE}) {
            Due.is("saved(" + wrong + ", 0)", x.saved(wrong, 0), -1000000);
            Due.is("saved(0, " + wrong + ")", x.saved(0, wrong), -1000000);
        }
        Due.is("saved(0, 2)", x.saved(0, 2), -1000000);
        Due.read(x, "write share 1000 into 0 rows 100;");
        Due.is("the greatest loss", x.saved(0, 0), -200000);
        x.undo();
        Due.is("saved(2, 0) behind undo", x.saved(2, 0), -1000000);
    }
}
