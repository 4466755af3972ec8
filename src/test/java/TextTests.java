/** Promises 2 to 5: the tape, TOKENS, DEEDS and FAULTS. */
public final class TextTests {
    public static void main(String[] args) {
        tape();
        tokens();
        syntax();
        room();
        twiceNameWrong();
        ahead();
        replaced();
        Due.end();
    }

    /** TABLE 0 has 4 COLUMNS, TABLE 1 has 2, TABLE 2 has 1. */
    private static TunerGame told() {
        TunerGame x = new TunerGame();
        x.table(4);
        x.table(2);
        x.table(1);
        return x;
    }

    private static void tape() {
        TunerGame x = told();
        Due.is("back(0) of an empty tape", x.back(0), 0);
        Due.is("back(1) of an empty tape", x.back(1), -1);
        for (int n = 1; n <= 100; n++) {
            Due.is("feed", x.feed(0x20202020, 0x20202020, 0x20202020, 0x20202020, 0x20202020), 20 * n);
        }
        Due.is("feed of a full tape", x.feed(0, 0, 0, 0, 0), -1);
        Due.is("count(8) of a full tape", x.count(8), 2000);
        Due.is("back(2001)", x.back(2001), -1);
        Due.is("back(-1)", x.back(-1), -1);
        Due.is("back(least)", x.back(Integer.MIN_VALUE), -1);
        Due.is("back(greatest)", x.back(Integer.MAX_VALUE), -1);
        Due.is("back(19)", x.back(19), 1981);
        Due.is("feed of 19 free", x.feed(0, 0, 0, 0, 0), -1);
        Due.is("back(1)", x.back(1), 1980);
        Due.is("feed of 20 free", x.feed(0x20202020, 0x20202020, 0x20202020, 0x20202020, 0x20202041), 2000);
        Due.is("read", x.read(), 1);
        Due.is("place: the lowest byte of e is the last", x.place(), 1999);
        Due.is("the tape is empty behind a FAULT", x.count(8), 0);
        x.feed(0x20412020, 0, 0, 0, 0);
        x.back(16);
        Due.is("read", x.read(), 1);
        Due.is("place: the highest byte of a is the first", x.place(), 1);
        x.feed(0x20202020, 0x20202020, 0x20202020, 0x20202020, 0x20202020);
        Due.is("back(20)", x.back(20), 0);
        Due.is("read of blanks taken back", x.read(), 0);
        Due.is("place", x.place(), -1);
        Due.put(x, "ask share 1 ");
        Due.put(x, "from 0;");
        Due.is("read of two parts", x.read(), 0);
        Due.is("the tape is empty behind a text", x.count(8), 0);
    }

    private static void tokens() {
        TunerGame x = told();
        Due.is("place ahead of any read", x.place(), -1);
        Due.fault(x, "", 0, -1);
        Due.fault(x, " \t\n\r ", 0, -1);
        Due.fault(x, "ask share1from0where0==1and1<2join1on0=0order1;write share2into0rows4;", 0, -1);
        Due.is("DEEDS", x.count(1), 2);
        Due.fault(x, "\task\rshare\n0001 from\t\t0000 ;", 0, -1);
        Due.fault(x, "askshare 1 from 0;", 1, 0);
        Due.fault(x, "ask share 00001 from 0;", 1, 10);
        Due.fault(x, "ask share 1 fromfromx 0;", 1, 12);
        Due.fault(x, "ask share 1 from 0 where 0 = = 1;", 1, 27);
        Due.fault(x, "ask share 1 from 0 where 0===1;", 1, 28);
        Due.fault(x, "ask share 1 from 0 join 1 on 0 == 0;", 1, 31);
        Due.fault(x, "ask share 1 from 0 where 0 <= 1;", 1, 28);
        Due.fault(x, "Ask share 1 from 0;", 1, 0);
        Due.fault(x, "ask share -1 from 0;", 1, 10);
        Due.fault(x, "ask share 1 from 0.", 1, 18);
        Due.fault(x, "ask share 1 from 0;\u000b", 1, 19);
        Due.fault(x, "ask share 1 from 0;\u00e1", 1, 19);
        Due.fault(x, "ask share 1 from 0; \u0000", 1, 20);
        Due.fault(x, "ask share 1 from 0;=", 1, 19);
    }

    private static void syntax() {
        TunerGame x = told();
        String whole = "ask share 1 from 0 where 0 == 1 and 1 < 2 join 1 on 0 = 0 order 1;";
        // every part of it that ends behind a TOKEN, but for none and the whole, lacks what is due at its end
        for (int end = 1; end < whole.length(); end++) {
            if (whole.charAt(end) == ' ') {
                Due.fault(x, whole.substring(0, end), 1, end);
                Due.fault(x, whole.substring(0, end) + "  ", 1, end + 2);
            }
        }
        Due.fault(x, whole, 0, -1);
        Due.fault(x, "write share 1 into 0 rows 1", 1, 27);
        Due.fault(x, ";", 1, 0);
        Due.fault(x, "  share 1;", 1, 2);
        Due.fault(x, "ask share 1 from 0;;", 1, 19);
        Due.fault(x, "ask share 1 into 0;", 1, 12);
        Due.fault(x, "write share 1 from 0;", 1, 14);
        Due.fault(x, "write share 1 into 0 where 0 == 1;", 1, 21);
        Due.fault(x, "write share 1 into 0;", 1, 20);
        Due.fault(x, "ask share 1 from 0 where;", 1, 24);
        Due.fault(x, "ask share 1 from 0 where 0 == 1 and;", 1, 35);
        Due.fault(x, "ask share 1 from 0 where 0 == 1 where 1 == 1;", 1, 32);
        Due.fault(x, "ask share 1 from 0 and 0 == 1;", 1, 19);
        Due.fault(x, "ask share 1 from 0 order 1 join 1 on 0 = 0;", 1, 27);
        Due.fault(x, "ask share 1 from 0 join 1 on 0 = 0 join 1 on 0 = 0;", 1, 35);
        Due.fault(x, "ask share 1 from 0 join 1 on 0 = 0 where 0 == 1;", 1, 35);
        Due.fault(x, "ask share 1 from 0 order 1 order 1;", 1, 27);
        Due.fault(x, "ask share 1 from 0 ask share 1 from 0;", 1, 19);
        Due.fault(x, "ask share share from 0;", 1, 10);
        Due.fault(x, "ask 1 share from 0;", 1, 4);
        Due.fault(x, "ask share 1 from 0 where 0 == where;", 1, 30);
    }

    private static void room() {
        TunerGame x = told();
        String eight = "ask share 1 from 0;".repeat(8);
        Due.fault(x, eight, 0, -1);
        Due.is("eight DEEDS", x.count(1), 8);
        Due.fault(x, eight + " ask share 1 from 0;", 2, 153);
        Due.fault(x, eight + " write", 2, 153);
        Due.fault(x, eight + " share", 1, 153);
        Due.fault(x, eight + " ;", 1, 153);
        Due.is("eight DEEDS yet", x.count(1), 8);
        String four = "ask share 1 from 0 where 0 == 1 and 1 == 1 and 2 == 1 and 3 == 1";
        Due.fault(x, four + ";", 0, -1);
        Due.fault(x, four + " and 0 == 1;", 2, 69);
        Due.fault(x, four + " and 9", 2, 69);
        Due.fault(x, four + " and ;", 1, 69);
        Due.fault(x, four + " and", 1, 68);
        Due.fault(x, four + " and 12345", 1, 69);
        // the greatest text that there can be has 240 TOKENS
        String most = four + " join 1 on 0 = 1 order 3;";
        Due.fault(x, most.repeat(8), 0, -1);
        Due.is("eight great DEEDS", x.count(1), 8);
        Due.fault(x, "ask share 1 from 0; write share 1 into 0 rows 0; ask", 1, 52);
    }

    private static void twiceNameWrong() {
        TunerGame x = told();
        Due.fault(x, "ask share 1 from 0 where 0 == 1 and 0 < 2;", 3, 36);
        Due.fault(x, "ask share 1 from 0 where 0 == 1 and 1 < 2 and 00 < 2;", 3, 46);
        Due.fault(x, "ask share 1 from 0 where 0 == 1; ask share 1 from 0 where 0 == 1;", 0, -1);
        Due.fault(x, "ask share 1 from 3;", 4, 17);
        Due.fault(x, "ask share 1 from 9999;", 4, 17);
        Due.fault(x, "write share 1 into 3 rows 1;", 4, 19);
        Due.fault(x, "ask share 1 from 0 where 4 == 1;", 4, 25);
        Due.fault(x, "ask share 1 from 0 where 3 == 1;", 0, -1);
        Due.fault(x, "ask share 1 from 1 where 1 == 1 and 2 == 1;", 4, 36);
        Due.fault(x, "ask share 1 from 1 where 5 == 1 and 5 == 1;", 4, 25);
        Due.fault(x, "ask share 1 from 1 join 3 on 0 = 0;", 4, 24);
        Due.fault(x, "ask share 1 from 1 join 0 on 2 = 3;", 4, 29);
        Due.fault(x, "ask share 1 from 1 join 0 on 1 = 3;", 0, -1);
        Due.fault(x, "ask share 1 from 0 join 1 on 3 = 2;", 4, 33);
        Due.fault(x, "ask share 1 from 0 join 1 on 3 = 1;", 0, -1);
        Due.fault(x, "ask share 1 from 1 join 1 on 1 = 1;", 0, -1);
        Due.fault(x, "ask share 1 from 0 join 2 on 3 = 0 order 3;", 0, -1);
        Due.fault(x, "ask share 1 from 2 join 0 on 0 = 3 order 1;", 4, 41);
        Due.fault(x, "ask share 1001 from 0;", 5, 10);
        Due.fault(x, "ask share 1000 from 0;", 0, -1);
        Due.fault(x, "write share 1001 into 0 rows 1;", 5, 12);
        Due.fault(x, "write share 0 into 0 rows 0;", 5, 26);
        Due.fault(x, "write share 0 into 0 rows 101;", 5, 26);
        Due.fault(x, "write share 0 into 0 rows 100;", 0, -1);
        Due.fault(x, "ask share 1 from 0 where 0 == 16;", 5, 30);
        Due.fault(x, "ask share 1 from 0 where 0 < 16;", 5, 29);
        Due.fault(x, "ask share 1 from 0 where 0 < 15;", 0, -1);
        Due.fault(new TunerGame(), "ask share 1 from 0;", 4, 17);
    }

    /** Of FAULTS 3 to 5 the first by its place; 1 and 2 come ahead of them wherever they stand. */
    private static void ahead() {
        TunerGame x = told();
        Due.fault(x, "ask share 1001 from 3;", 5, 10);
        Due.fault(x, "ask share 1 from 3 where 0 == 16 and 0 == 1;", 4, 17);
        Due.fault(x, "ask share 1 from 0 where 0 == 16 and 0 == 1;", 5, 30);
        Due.fault(x, "ask share 1 from 0 where 0 == 1 and 0 == 16;", 3, 36);
        Due.fault(x, "ask share 1 from 3; ask share 1001 from 0; ask share 1 from 0 where 0 == 1 and 0 == 1;", 4, 17);
        Due.fault(x, "ask share 1001 from 3", 1, 21);
        Due.fault(x, "ask share 1 from 0 where 0 == 1 and 0 == 1 and 0 == 1 and 0 == 1 and 0 == 1;", 2, 69);
        Due.fault(x, "write share 1 into 9 rows 0;".repeat(8) + "ask", 2, 224);
        Due.fault(x, "write share 1 into 0 rows 1;", 0, -1);
    }

    private static void replaced() {
        TunerGame x = told();
        Due.read(x, "write share 3 into 0 rows 5; ask share 1 from 0;");
        Due.is("COST", x.cost(0), 15);
        Due.fault(x, "write share 1 into 0 rows 7; ask share 1 from 3;", 4, 46);
        Due.is("COST of the text ahead", x.cost(0), 15);
        Due.is("DEEDS of the text ahead", x.count(1), 2);
        Due.fault(x, "write share 1 into 0 rows 7; ask", 1, 32);
        Due.is("COST of the text ahead", x.cost(0), 15);
        Due.fault(x, "write share 1 into 0 rows 7;", 0, -1);
        Due.is("COST of the text in its place", x.cost(0), 7);
        Due.is("DEEDS of the text in its place", x.count(1), 1);
        Due.fault(x, " ", 0, -1);
        Due.is("DEEDS of no text", x.count(1), 0);
        Due.is("COST of no text", x.cost(0), 0);
    }
}
