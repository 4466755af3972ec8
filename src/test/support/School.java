/** An object that has something of everything, so that whatever a call changes can be seen. */
final class School {
    private School() {
    }

    static TunerGame made() {
        TunerGame x = new TunerGame();
        x.table(2);
        x.table(1);
        for (int n = 0; n < 9; n++) {
            x.row(0, n % 3, 15 - n, 0, 0);
        }
        for (int n = 0; n < 3; n++) {
            x.row(1, n, 0, 0, 0);
        }
        x.room(2);
        x.budget(9);
        Due.read(x, "ask share 5 from 0 where 0 == 1 order 1; ask share 2 from 1 join 0 on 0 = 0;"
                + "ask share 1 from 0; ask share 1 from 1; write share 1 into 0 rows 2;");
        x.index(0, 0, 1, -1, 3);
        x.more(2, 4);
        x.index(1, 0, -1, -1, 1);
        x.more(1, 6);
        x.play(1);
        x.play(0);
        Due.read(x, "ask");
        Due.put(x, "ask share 7 from 1;");
        return x;
    }
}
