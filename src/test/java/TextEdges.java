/** Part II and promises 2 to 5: each sentence that names an edge, by itself. */
public final class TextEdges {
    private static final String ASK = "ask share 1 from 0;";
    private static final String FOUR = "ask share 1 from 0 where 0 == 1 and 1 == 1 and 2 == 1 and 3 == 1";
    private static final String[] WHOLE_ASK = {"ask", "share", "1", "from", "0", "where", "0", "==", "1", "and", "1",
        "<", "2", "join", "1", "on", "0", "=", "0", "order", "1", ";"};
    /** What may come in place of each TOKEN of the whole ask, and behind it; 1 stands for an INT. */
    private static final String[] MAY_COME_IN_ASK = {"ask write", "share", "1", "from", "1", "where join order ;", "1",
        "== <", "1", "and join order ;", "1", "== <", "1", "and join order ;", "1", "on", "1", "=", "1", "order ;", "1",
        ";", "ask write"};
    private static final String[] MAY_COME_IN_WRITE = {"ask write", "share", "1", "into", "1", "rows", "1", ";", "ask write"};
    private static final String[] ANY = {"ask", "share", "from", "where", "and", "join", "on", "order", "write", "into",
        "rows", "1", ";", "==", "<", "="};
    private static final String[] WHOLE_WRITE = {"write", "share", "1", "into", "0", "rows", "1", ";"};

    public static void main(String[] args) {
        feedBringsTwentyBytes();
        feedOfAFullTape();
        backTakesTheLast();
        backOfTooMany();
        readEmptiesTheTape();
        placeOfTheLatest();
        textOfTwoThousandBytes();
        blanks();
        longestTokens();
        words();
        ints();
        signs();
        emptyText();
        partsThatMayLack();
        deedsByNumber();
        firstFaultByPlace();
        endOfTheText();
        leastFaultOfAPlace();
        syntax();
        mostTokens();
        ninthDeed();
        fifthCond();
        likewise();
        twice();
        nameOfTables();
        nameOfColumns();
        wrongShare();
        wrongRows();
        wrongValue();
        faultChangesNothing();
        textInPlaceOfTheOneAhead();
        Due.end();
    }

    /** TABLE 0 has 4 COLUMNS, TABLE 1 has 2, TABLE 2 has 1. */
    private static TunerGame told() {
        TunerGame x = new TunerGame();
        x.table(4);
        x.table(2);
        x.table(1);
        return x;
    }

    private static int blank(TunerGame x) {
        return x.feed(0x20202020, 0x20202020, 0x20202020, 0x20202020, 0x20202020);
    }

    private static TunerGame blanks(int twenties) {
        TunerGame x = told();
        for (int n = 0; n < twenties; n++) {
            blank(x);
        }
        return x;
    }

    private static void feedBringsTwentyBytes() {
        Due.sentence("Twenty bytes, the highest of a first, come behind the tape: how many it has");
        TunerGame x = told();
        Due.is("feed of 'ask share 1 from 0 ;'", x.feed(0x61736b20, 0x73686172, 0x65203120, 0x66726f6d, 0x2030203b), 20);
        Due.is("a second feed of it", x.feed(0x61736b20, 0x73686172, 0x65203120, 0x66726f6d, 0x2030203b), 40);
        Due.is("read", x.read(), 0);
        Due.is("DEEDS", x.count(1), 2);
        for (int at = 0; at < 20; at++) {
            int[] w = {0x20202020, 0x20202020, 0x20202020, 0x20202020, 0x20202020};
            w[at / 4] += 0x40 << 8 * (3 - at % 4);
            x.feed(w[0], w[1], w[2], w[3], w[4]);
            Due.is("read with a wrong byte at " + at, x.read(), 1);
            Due.is("its place", x.place(), at);
        }
        x.feed(0x202020e1, 0x20202020, 0x20202020, 0x20202020, 0x20202020);
        Due.is("read with a byte above 127", x.read(), 1);
        Due.is("its place", x.place(), 3);
        blank(x);
        x.feed(0x2020203b, -1, -1, -1, -1);
        Due.is("read of bytes behind others", x.read(), 1);
        Due.is("their place", x.place(), 23);
    }

    private static void feedOfAFullTape() {
        Due.sentence("NONE, and nothing comes, if it would have more than 2,000");
        TunerGame x = blanks(99);
        Due.is("the hundredth feed", blank(x), 2000);
        Due.is("one more", x.feed(-1, -1, -1, -1, -1), -1);
        Due.is("bytes", x.count(8), 2000);
        Due.is("back(19)", x.back(19), 1981);
        Due.is("20 bytes behind 1981", x.feed(-1, -1, -1, -1, -1), -1);
        Due.is("bytes", x.count(8), 1981);
        Due.is("back(1)", x.back(1), 1980);
        Due.is("20 bytes behind 1980", blank(x), 2000);
        Due.is("read: nothing wrong came", x.read(), 0);
        Due.nothing("feed of a full tape", () -> blanks(100), y -> y.feed(-1, -1, -1, -1, -1));
    }

    private static void backTakesTheLast() {
        Due.sentence("The last n bytes of the tape go: how many it has");
        TunerGame x = told();
        Due.put(x, ASK);
        x.feed(-1, -1, -1, -1, -1);
        Due.is("back(0)", x.back(0), 39);
        Due.is("back(1)", x.back(1), 38);
        Due.is("back(19): the rest of what is wrong", x.back(19), 19);
        Due.is("read", x.read(), 0);
        Due.is("DEEDS", x.count(1), 1);
        Due.put(x, ASK);
        Due.is("back(1): the last byte", x.back(1), 18);
        Due.is("read without ;", x.read(), 1);
        Due.is("its place", x.place(), 18);
        Due.put(x, "ask share 1 from 77");
        Due.is("back(2)", x.back(2), 17);
        Due.is("what comes then comes behind the rest", Due.put(x, "0;"), 19);
        Due.is("read", x.read(), 0);
        Due.put(x, "ask share 1 from 0 join 1 on 0 ==");
        Due.is("back(1): one = of two", x.back(1), 32);
        Due.is("read", x.read(), 1);
        Due.is("what went is no part of what stays", x.place(), 32);
        Due.put(x, ASK + "12");
        Due.is("back(2)", x.back(2), 19);
        Due.is("read", x.read(), 0);
        Due.put(x, ASK);
        Due.is("back of all", x.back(19), 0);
        Due.is("back(0) of none", x.back(0), 0);
        Due.is("read of none", x.read(), 0);
        Due.is("DEEDS", x.count(1), 0);
    }

    private static void backOfTooMany() {
        Due.sentence("NONE, and nothing goes, if it has not so many, or n is below 0");
        TunerGame x = told();
        Due.is("back(1) of none", x.back(1), -1);
        Due.put(x, ASK);
        for (int n : new int[] {20, 2000, Integer.MAX_VALUE, -1, -19, Integer.MIN_VALUE}) {
            Due.is("back(" + n + ")", x.back(n), -1);
            Due.is("bytes behind back(" + n + ")", x.count(8), 19);
        }
        Due.is("read", x.read(), 0);
        Due.is("back(1) of a tape that was read", x.back(1), -1);
        for (int n : new int[] {20, -1}) {
            Due.nothing("back(" + n + ")", School::made, y -> y.back(n));
        }
    }

    private static void readEmptiesTheTape() {
        Due.sentence("The tape, which is empty then, is read: 0, or the number of its FAULT");
        TunerGame x = told();
        String[] texts = {ASK, "ask", ASK.repeat(8) + "ask", "ask share 1 from 0 where 0 == 1 and 0 == 1;",
            "ask share 1 from 3;", "ask share 1001 from 0;"};
        for (int fault = 0; fault < texts.length; fault++) {
            Due.is("read of " + texts[fault], Due.read(x, texts[fault]), fault);
            Due.is("bytes behind it", x.count(8), 0);
        }
        Due.is("the text without a FAULT is there", x.count(1), 1);
        Due.is("read of the empty tape", x.read(), 0);
        Due.is("its text has no DEEDS", x.count(1), 0);
    }

    private static void placeOfTheLatest() {
        Due.sentence("The byte of the latest read()'s FAULT; NONE without");
        TunerGame x = told();
        Due.is("place ahead of all reads", x.place(), -1);
        Due.fault(x, "ask share", 1, 9);
        Due.put(x, ASK);
        x.back(19);
        x.table(1);
        Due.is("place stays up to the next read", x.place(), 9);
        Due.fault(x, ";", 1, 0);
        Due.fault(x, ASK, 0, -1);
        Due.fault(x, "ask share 1001 from 0;", 5, 10);
        Due.fault(x, "", 0, -1);
    }

    private static void textOfTwoThousandBytes() {
        Due.sentence("THE TEXT has 2,000 bytes at most");
        TunerGame x = told();
        Due.put(x, " ".repeat(1981) + ASK);
        Due.is("bytes", x.count(8), 2000);
        Due.is("read", x.read(), 0);
        Due.is("DEEDS", x.count(1), 1);
        Due.fault(told(), " ".repeat(1982) + "ask share 1 from 0", 1, 2000);
        Due.fault(told(), " ".repeat(1999) + "9", 1, 1999);
        Due.fault(told(), "9".repeat(2000), 1, 0);
        Due.fault(told(), "a".repeat(2000), 1, 0);
        Due.fault(told(), "=".repeat(2000), 1, 0);
        Due.fault(told(), " ".repeat(1968) + "ask share 1 from 0 join 1 on 0 =", 1, 2000);
    }

    private static void blanks() {
        Due.sentence("with blanks (9, 10, 13, 32) between or not");
        for (int b = 0; b < 256; b++) {
            boolean blank = b == 9 || b == 10 || b == 13 || b == 32;
            Due.fault(told(), ASK + (char) b, blank ? 0 : 1, blank ? -1 : 19);
            boolean word = b >= 'a' && b <= 'z';
            Due.fault(told(), "ask" + (char) b + "share 1 from 0;", blank ? 0 : 1, blank ? -1 : word ? 0 : 3);
        }
        TunerGame x = told();
        Due.fault(x, "ask share1from0where0==1and1<2join1on0=0order1;write share2into0rows4;", 0, -1);
        Due.fault(x, "\t\n\r ask \t\n\r share\t\t1\n\nfrom\r\r0\t;\n", 0, -1);
        Due.fault(x, "as k share 1 from 0;", 1, 0);
        Due.fault(x, "ask share 1 0 from 0;", 1, 12);
        Due.fault(x, "ask share 1 from 0 where 0 = = 1;", 1, 27);
    }

    private static void longestTokens() {
        Due.sentence("TOKENS, the longest that can be");
        TunerGame x = told();
        Due.fault(x, "askshare 1 from 0;", 1, 0);
        Due.fault(x, "ask share 1 from 0 wheres 0 == 1;", 1, 19);
        Due.fault(x, "ask share 12345 from 0;", 1, 10);
        Due.fault(x, "ask share 1 from 0 join 1 on 0==0;", 1, 30);
        Due.fault(x, "ask share 1 from 0 where 0===1;", 1, 28);
        Due.fault(x, "ask share 1 from 0 where 0====1;", 1, 28);
        Due.fault(x, "ask share 1 from 0 where 0<=1;", 1, 27);
        Due.fault(x, "ask share 1 from 0 where 0==1;", 0, -1);
    }

    private static void words() {
        Due.sentence("WORDS (letters a .. z, 8 at most)");
        TunerGame x = told();
        for (char near : new char[] {'`', '{', 'A', 'Z', '_', '\u00e1'}) {
            Due.fault(x, "ask" + near, 1, 3);
            Due.fault(x, near + "ask", 1, 0);
        }
        for (char letter : new char[] {'a', 'm', 'z'}) {
            Due.fault(x, "ask" + letter, 1, 0);
        }
        everyLetter();
        Due.fault(x, "asK share 1 from 0;", 1, 0);
        Due.fault(x, "abcdefgh", 1, 0);
        Due.fault(x, "abcdefghi", 1, 0);
        Due.fault(x, "abcdefghask share 1 from 0;", 1, 0);
        Due.fault(x, "ask share 1 fromfromfrom 0;", 1, 12);
    }

    /** A WORD with another letter, one less or one more is another WORD. */
    private static void everyLetter() {
        for (String[] whole : new String[][] {WHOLE_ASK, WHOLE_WRITE}) {
            StringBuilder ahead = new StringBuilder();
            for (String token : whole) {
                for (int n = 0; n < token.length() && Character.isLetter(token.charAt(0)); n++) {
                    String part = token.substring(0, n);
                    String rest = token.substring(n + 1);
                    for (String other : new String[] {part + "z" + rest, part + rest, part + "z" + token.substring(n)}) {
                        Due.fault(told(), ahead + other + " 1;", 1, ahead.length());
                    }
                }
                ahead.append(token).append(' ');
            }
        }
    }

    private static void ints() {
        Due.sentence("INTS (1 to 4 digits). A longer one, all else, is no TOKEN");
        TunerGame x = told();
        Due.fault(x, "ask share 9 from 0;", 0, -1);
        Due.fault(x, "ask share 0000 from 0000 where 0003 == 0015;", 0, -1);
        Due.fault(x, "ask share 9999 from 0;", 5, 10);
        Due.fault(x, "ask share 00000 from 0;", 1, 10);
        Due.fault(x, "ask share 00001 from 0;", 1, 10);
        Due.fault(x, "ask share 4294967297 from 0;", 1, 10);
        Due.fault(x, "ask share from 0;", 1, 10);
        Due.fault(x, "ask share 1/ from 0;", 1, 11);
        Due.fault(x, "ask share 1: from 0;", 1, 11);
        Due.fault(x, "ask share -1 from 0;", 1, 10);
        Due.fault(x, "ask share +1 from 0;", 1, 10);
        Due.fault(x, "ask share 1.5 from 0;", 1, 11);
        TunerGame y = told();
        Due.read(y, "write share 1000 into 0 rows 0100; write share 0019 into 0 rows 7;");
        Due.is("COST", y.cost(0), 100000 + 133);
    }

    private static void signs() {
        Due.sentence("SIGNS ; == < = . A longer one, all else, is no TOKEN");
        for (int b = 0; b < 256; b++) {
            boolean blank = b == 9 || b == 10 || b == 13 || b == 32;
            boolean digit = b >= '0' && b <= '9';
            int place = b == ';' ? -1 : blank || digit ? 19 : 18;
            Due.fault(told(), "ask share 1 from 0" + (char) b, b == ';' ? 0 : 1, place);
            boolean holds = b == '<';
            Due.fault(told(), "ask share 1 from 0 where 1 " + (char) b + " 1;", holds ? 0 : 1, holds ? -1 : blank ? 29 : 27);
        }
        TunerGame x = told();
        Due.fault(x, "ask share 1 from 0 where 1 == 1;", 0, -1);
        Due.fault(x, "ask share 1 from 0 join 1 on 0 = 0;", 0, -1);
        Due.fault(x, "ask share 1 from 0 join 1 on 0 < 0;", 1, 31);
        Due.fault(x, "ask share 1 from 0 where 1 == 1.", 1, 31);
    }

    private static void emptyText() {
        Due.sentence("text: {DEED}");
        TunerGame x = told();
        Due.fault(x, "", 0, -1);
        Due.fault(x, " ", 0, -1);
        Due.fault(x, " \t\r\n".repeat(500), 0, -1);
        Due.is("DEEDS", x.count(1), 0);
        Due.fault(x, ASK, 0, -1);
        Due.is("DEEDS", x.count(1), 1);
        Due.fault(x, ASK + ";", 1, 19);
        Due.fault(x, ";", 1, 0);
    }

    private static void partsThatMayLack() {
        Due.sentence("['where' COND {'and' COND}] ['join' INT 'on' INT '=' INT] ['order' INT] ';'");
        String[] wheres = {"", " where 0 == 1", " where 0 < 1 and 1 == 1 and 2 < 2 and 3 == 15"};
        TunerGame x = told();
        for (String where : wheres) {
            Due.fault(x, "ask share 1 from 0" + where + ";", 0, -1);
            Due.fault(x, "ask share 1 from 0" + where + " order 3;", 0, -1);
            Due.fault(x, "ask share 1 from 0" + where + " join 1 on 3 = 1;", 0, -1);
            Due.fault(x, "ask share 1 from 0" + where + " join 1 on 3 = 1 order 3;", 0, -1);
        }
        Due.fault(x, "ask share 1 from 0 and 0 == 1;", 1, 19);
        Due.fault(x, "ask share 1 from 0 where 0 == 1 where 1 == 1;", 1, 32);
        Due.fault(x, "ask share 1 from 0 where 0 == 1 1 == 1;", 1, 32);
        Due.fault(x, "ask share 1 from 0 order 1 join 1 on 0 = 0;", 1, 27);
        Due.fault(x, "ask share 1 from 0 order 1 where 0 == 1;", 1, 27);
        Due.fault(x, "ask share 1 from 0 order 1 order 1;", 1, 27);
        Due.fault(x, "ask share 1 from 0 join 1 on 0 = 0 join 1 on 0 = 0;", 1, 35);
        Due.fault(x, "ask share 1 from 0 join 1 on 0 = 0 where 0 == 1;", 1, 35);
        Due.fault(x, "ask share 1 from 0 join 1 on 0 = 0 and 0 == 1;", 1, 35);
        Due.fault(x, "write share 1 into 0 rows 1 order 0;", 1, 28);
        Due.fault(x, "write share 1 into 0 where 0 == 1 rows 1;", 1, 21);
        Due.fault(x, "write share 1 from 0 rows 1;", 1, 14);
        Due.fault(x, "ask share 1 into 0;", 1, 12);
    }

    private static void deedsByNumber() {
        Due.sentence("DEEDS are numbered from 0 on");
        TunerGame x = told();
        StringBuilder text = new StringBuilder();
        for (int k = 0; k < 8; k++) {
            text.append("write share 1 into 0 rows ").append(k + 11).append(';');
        }
        Due.is("read", Due.read(x, text.toString()), 0);
        for (int k = 0; k < 8; k++) {
            Due.is("deed(" + k + ", 0)", x.deed(k, 0), k + 11);
        }
        Due.is("deed(8, 0)", x.deed(8, 0), -1);
        Due.is("deed(-1, 0)", x.deed(-1, 0), -1);
    }

    private static void firstFaultByPlace() {
        Due.sentence("FAULTS, the first by its place");
        TunerGame x = told();
        Due.fault(x, "ask ask share share", 1, 4);
        firstOfTwo(WHOLE_ASK, MAY_COME_IN_ASK);
        firstOfTwo(WHOLE_WRITE, MAY_COME_IN_WRITE);
        Due.fault(x, ASK.repeat(8) + "ask ask", 2, 152);
        Due.fault(x, ASK.repeat(7) + "ask share ask; " + ASK + ASK, 1, 143);
        Due.fault(x, FOUR + " and 0 == 1 and 1 == 1; x", 2, 69);
        Due.fault(x, FOUR + " and 0 x", 2, 69);
        Due.fault(x, "ask share 1 x from 0 where 0 == 1 and 0 == 1 and 0 == 1 and 0 == 1 and 0 == 1", 1, 12);
    }

    /** What begins or ends a DEED where it may not, and another FAULT behind it. */
    private static void firstOfTwo(String[] whole, String[] mayCome) {
        StringBuilder ahead = new StringBuilder(whole[0]).append(' ');
        for (int n = 1; n < whole.length; n++) {
            Due.fault(told(), ahead + "ask share 1 from 0; x", 1, ahead.length());
            Due.fault(told(), ahead + "write x", 1, ahead.length());
            if (!mayCome[n].contains(";")) {
                Due.fault(told(), ahead + "; x", 1, ahead.length());
            }
            ahead.append(whole[n]).append(' ');
        }
    }

    private static void endOfTheText() {
        Due.sentence("a byte; the text's end: its length");
        TunerGame x = told();
        Due.fault(x, "ask", 1, 3);
        Due.fault(x, "ask    ", 1, 7);
        Due.fault(x, "   ask", 1, 6);
        Due.fault(x, ASK + "write share 1 into 0 rows 1", 1, 46);
        Due.fault(x, ASK + "write share 1 into 0 rows 1\n", 1, 47);
        Due.fault(x, "  ;", 1, 2);
    }

    private static void leastFaultOfAPlace() {
        Due.sentence("of one place the least");
        TunerGame x = told();
        String eight = ASK.repeat(8);
        for (String none : new String[] {"x", ";", "share", "1", "asks", "!", "abcdefghi", "12345"}) {
            Due.fault(x, eight + none, 1, 152);
        }
        for (String none : new String[] {"x", ";", "where", "==", "!", "12345"}) {
            Due.fault(told(), FOUR + " and " + none, 1, 69);
        }
        Due.fault(x, FOUR + " and", 1, 68);
        // a COLUMN that is not there can't be TWICE at first: the earlier COND has its FAULT ahead
        Due.fault(x, "ask share 1 from 1 where 0 == 1 and 2 == 1 and 2 == 1;", 4, 36);
    }

    private static void syntax() {
        Due.sentence("1 SYNTAX: a TOKEN, or what is none, with which no text goes on");
        for (String[] whole : new String[][] {WHOLE_ASK, WHOLE_WRITE}) {
            StringBuilder ahead = new StringBuilder();
            for (int n = 0; n < whole.length; n++) {
                int place = ahead.length();
                for (String bad : new String[] {"x", "abcdefghi", "12345", "!", "A", "\u0000", "\u00ff"}) {
                    Due.fault(told(), ahead + bad, 1, place);
                    Due.fault(told(), ahead + bad + " 1;", 1, place);
                }
                Due.fault(told(), ahead.toString(), n == 0 ? 0 : 1, n == 0 ? -1 : place);
                ahead.append(whole[n]).append(' ');
            }
            Due.fault(told(), ahead.toString(), 0, -1);
        }
        wrongKinds();
    }

    /** Every TOKEN behind every part of a text: with those that may come it goes on, with others not. */
    private static void wrongKinds() {
        everyToken(WHOLE_ASK, MAY_COME_IN_ASK);
        everyToken(WHOLE_WRITE, MAY_COME_IN_WRITE);
    }

    private static void everyToken(String[] whole, String[] mayCome) {
        StringBuilder ahead = new StringBuilder();
        for (int n = 0; n <= whole.length; n++) {
            for (String token : ANY) {
                boolean comes = (" " + mayCome[n] + " ").contains(" " + token + " ");
                int end = ahead.length() + token.length();
                boolean ends = comes && token.equals(";");
                Due.fault(told(), ahead + token, ends ? 0 : 1, ends ? -1 : comes ? end : ahead.length());
            }
            if (n < whole.length) {
                ahead.append(whole[n]).append(' ');
            }
        }
    }

    private static void mostTokens() {
        Due.sentence("2 ROOM: a 301st TOKEN");
        // eight of the longest DEEDS have 240 TOKENS: a 9th DEED, or a 5th COND, comes ahead of a 301st
        String most = FOUR + " join 1 on 0 = 1 order 3;";
        TunerGame x = told();
        Due.fault(x, most.repeat(8), 0, -1);
        Due.is("DEEDS", x.count(1), 8);
        Due.fault(x, most.repeat(8) + most.repeat(3), 2, most.length() * 8);
        Due.fault(told(), "ask " + "share ".repeat(300), 1, 10);
        Due.fault(told(), "ask share 1 from 0 where 0 == 1" + " and 0 == 1".repeat(80) + ";", 2, 69);
    }

    private static void ninthDeed() {
        Due.sentence("2 ROOM: a 9th DEED (at its first TOKEN)");
        TunerGame x = told();
        String write = "write share 1 into 0 rows 1;";
        Due.fault(x, ASK.repeat(7), 0, -1);
        Due.fault(x, ASK.repeat(8), 0, -1);
        Due.is("DEEDS", x.count(1), 8);
        Due.fault(x, ASK.repeat(9), 2, 152);
        Due.fault(x, write.repeat(8), 0, -1);
        Due.fault(x, write.repeat(9), 2, 224);
        Due.fault(x, ASK.repeat(4) + write.repeat(4) + "  " + ASK, 2, 190);
        Due.fault(x, ASK.repeat(8) + "ask", 2, 152);
        Due.fault(x, ASK.repeat(8) + "\nwrite x", 2, 153);
        Due.is("DEEDS of the latest text without a FAULT", x.count(1), 8);
        Due.is("it is that of writes", x.way(7, 0, 0), -2);
    }

    private static void fifthCond() {
        Due.sentence("2 ROOM: a 5th COND of an ask (at its first TOKEN)");
        TunerGame x = told();
        Due.fault(x, FOUR + ";", 0, -1);
        Due.fault(x, FOUR + ";" + FOUR + ";", 0, -1);
        Due.fault(x, FOUR + " and 0 == 1;", 2, 69);
        Due.fault(x, FOUR + " and   9", 2, 71);
        Due.fault(x, FOUR + ";" + FOUR + " and 0 == 1;", 2, 65 + 69);
        Due.fault(x, "ask share 1 from 0 where 0 == 1 and 1 == 1 and 2 == 1;" + FOUR + ";", 0, -1);
    }

    private static void likewise() {
        Due.sentence("If there is none, likewise");
        TunerGame x = told();
        Due.fault(x, "ask share 1001 from 3", 1, 21);
        Due.fault(x, "write share 1 into 9 rows 0;".repeat(8) + "ask", 2, 224);
        Due.fault(x, "ask share 1 from 0 where 0 == 1 and 0 == 1 and 0 == 1 and 0 == 1 and 0 == 1;", 2, 69);
        Due.fault(x, "ask share 1001 from 3;", 5, 10);
        Due.fault(x, "ask share 1 from 3 where 0 == 16 and 0 == 1;", 4, 17);
        Due.fault(x, "ask share 1 from 0 where 0 == 16 and 0 == 1;", 5, 30);
        Due.fault(x, "ask share 1 from 0 where 0 == 1 and 0 == 16;", 3, 36);
        Due.fault(x, "ask share 1 from 0 where 0 == 1 and 0 == 1 and 4 == 16 order 9;", 3, 36);
        Due.fault(x, "ask share 1 from 0 where 4 == 1 and 0 == 1 and 0 == 1;", 4, 25);
        Due.fault(x, ASK + "write share 1 into 0 rows 0; ask share 1 from 9;", 5, 45);
    }

    private static void twice() {
        Due.sentence("3 TWICE: a COND's COLUMN that an earlier COND of the ask has");
        TunerGame x = told();
        Due.fault(x, "ask share 1 from 0 where 1 == 1 and 1 == 1;", 3, 36);
        Due.fault(x, "ask share 1 from 0 where 1 == 1 and 1 < 2;", 3, 36);
        Due.fault(x, "ask share 1 from 0 where 1 < 1 and 0001 == 2;", 3, 35);
        Due.fault(x, "ask share 1 from 0 where 0 == 1 and 1 == 1 and 0 == 1;", 3, 47);
        Due.fault(x, "ask share 1 from 0 where 0 == 1 and 1 == 1 and 2 == 1 and 0 == 1;", 3, 58);
        Due.fault(x, "ask share 1 from 0 where 0 == 1 and 1 == 1 and 2 == 1 and 2 == 1;", 3, 58);
        Due.fault(x, FOUR + ";", 0, -1);
        Due.fault(x, "ask share 1 from 0 where 0 == 1; ask share 1 from 0 where 0 == 1;", 0, -1);
        Due.fault(x, "ask share 1 from 0 where 1 == 0 and 0 == 1 join 0 on 1 = 1 order 1;", 0, -1);
    }

    private static void nameOfTables() {
        Due.sentence("4 NAME: a TABLE that is not there");
        TunerGame none = new TunerGame();
        Due.fault(none, ASK, 4, 17);
        Due.fault(none, "write share 1 into 0 rows 1;", 4, 19);
        Due.fault(none, "", 0, -1);
        none.table(1);
        Due.fault(none, ASK, 0, -1);
        TunerGame x = told();
        Due.fault(x, "ask share 1 from 2;", 0, -1);
        Due.fault(x, "ask share 1 from 3;", 4, 17);
        Due.fault(x, "ask share 1 from 4;", 4, 17);
        Due.fault(x, "ask share 1 from 9999;", 4, 17);
        Due.fault(x, "write share 1 into 2 rows 1;", 0, -1);
        Due.fault(x, "write share 1 into 3 rows 1;", 4, 19);
        Due.fault(x, "ask share 1 from 0 join 2 on 0 = 0;", 0, -1);
        Due.fault(x, "ask share 1 from 0 join 3 on 0 = 0;", 4, 24);
        x.table(1);
        Due.fault(x, "ask share 1 from 3;", 0, -1);
        Due.fault(x, "ask share 1 from 4;", 4, 17);
        Due.fault(x, "ask share 1 from 0 join 4 on 0 = 0;", 4, 24);
        Due.fault(x, "write share 1 into 4 rows 1;", 4, 19);
    }

    private static void nameOfColumns() {
        Due.sentence("4 NAME: a COLUMN that its TABLE has not (of one that is not there: none has it)");
        for (int width = 1; width <= 4; width++) {
            TunerGame x = new TunerGame();
            x.table(width);
            x.table(5 - width);
            for (int column = 0; column < 6; column++) {
                int own = column < width ? 0 : 4;
                int other = column < 5 - width ? 0 : 4;
                Due.fault(x, "ask share 1 from 0 where " + column + " == 1;", own, own == 0 ? -1 : 25);
                Due.fault(x, "ask share 1 from 0 order " + column + ";", own, own == 0 ? -1 : 25);
                Due.fault(x, "ask share 1 from 0 join 1 on " + column + " = 0;", own, own == 0 ? -1 : 29);
                Due.fault(x, "ask share 1 from 0 join 1 on 0 = " + column + ";", other, other == 0 ? -1 : 33);
            }
        }
        TunerGame y = told();
        Due.fault(y, "ask share 1 from 2 join 0 on 0 = 3 order 1;", 4, 41);
        Due.fault(y, "ask share 1 from 0 join 2 on 3 = 0 order 3;", 0, -1);
        Due.fault(y, "ask share 1 from 1 where 1 == 1 and 2 == 1;", 4, 36);
        Due.fault(y, "ask share 1 from 0 where 9999 == 1;", 4, 25);
        Due.fault(y, "ask share 1 from 3 where 0 == 1;", 4, 17);
        Due.fault(y, "ask share 1 from 0 join 3 on 4 = 4;", 4, 24);
    }

    private static void wrongShare() {
        Due.sentence("5 WRONG: a share above 1000");
        TunerGame x = told();
        for (int share : new int[] {0, 1, 999, 1000, 1001, 9999}) {
            boolean wrong = share > 1000;
            Due.fault(x, "ask share " + share + " from 0;", wrong ? 5 : 0, wrong ? 10 : -1);
            Due.fault(x, "write share " + share + " into 0 rows 1;", wrong ? 5 : 0, wrong ? 12 : -1);
        }
    }

    private static void wrongRows() {
        Due.sentence("5 WRONG: rows 0 or above 100");
        TunerGame x = told();
        for (int rows : new int[] {0, 1, 99, 100, 101, 9999}) {
            boolean wrong = rows == 0 || rows > 100;
            Due.fault(x, "write share 1 into 0 rows " + rows + ";", wrong ? 5 : 0, wrong ? 26 : -1);
        }
        Due.fault(x, "write share 1 into 0 rows 0000;", 5, 26);
        Due.fault(x, "write share 1 into 0 rows 0001;", 0, -1);
    }

    private static void wrongValue() {
        Due.sentence("5 WRONG: a COND's second INT above 15");
        TunerGame x = told();
        for (int value : new int[] {0, 1, 15, 16, 17, 9999}) {
            boolean wrong = value > 15;
            Due.fault(x, "ask share 1 from 0 where 0 == " + value + ";", wrong ? 5 : 0, wrong ? 30 : -1);
            Due.fault(x, "ask share 1 from 0 where 0 < " + value + ";", wrong ? 5 : 0, wrong ? 29 : -1);
            Due.fault(x, "ask share 1 from 0 where 0 < 1 and 1 == " + value + ";", wrong ? 5 : 0, wrong ? 40 : -1);
        }
    }

    private static void faultChangesNothing() {
        Due.sentence("A text with a FAULT changes nothing");
        String good = "write share 9 into 1 rows 9;";
        String[] bad = {good + "ask", good.repeat(9), good + "ask share 1 from 0 where 0 == 1 and 0 == 1;",
            good + "ask share 1 from 2;", good + "ask share 1 from 0 where 0 == 16;"};
        for (int n = 0; n < bad.length; n++) {
            String text = bad[n];
            int fault = n + 1;
            // of the same place as the FAULT that the school had, so that all else must be alike
            Due.nothing("read() of " + text, () -> emptied("x"), x -> {
                Due.is("read() of " + text, Due.read(x, text), fault);
                Due.read(x, "x");
            });
        }
        Due.nothing("read() of 'ask'", () -> emptied("ask"), x -> Due.read(x, "ask"));
    }

    /** The school with an empty tape behind the FAULT of a text. */
    private static TunerGame emptied(String text) {
        TunerGame x = School.made();
        x.back(x.count(8));
        Due.read(x, text);
        return x;
    }

    private static void textInPlaceOfTheOneAhead() {
        Due.sentence("else it is in place of the one ahead");
        TunerGame x = told();
        for (int n = 0; n < 9; n++) {
            x.row(0, n, n, n, n);
        }
        String full = "ask share 3 from 0 where 0 < 4 and 1 < 3 join 0 on 0 = 0 order 1;";
        for (int time = 0; time < 3; time++) {
            Due.is("read of a full ask", Due.read(x, "write share 7 into 0 rows 50;" + full), 0);
            Due.is("DEEDS", x.count(1), 2);
            // 2 PAGES; 3 ROWS beyond ROOM; 2 PAGES for each of them
            Due.is("COST", x.cost(0), 350 + 3 * (2 + 9 + 6));
            Due.is("read of plain ones", Due.read(x, "ask share 2 from 0; ask share 1 from 0 where 2 == 1;"), 0);
            Due.is("no write any more", x.way(0, 0, 0), -1);
            Due.is("all ROWS", x.way(0, 0, 1), 9);
            Due.is("no order", x.way(1, 0, 2), 0);
            Due.is("no join", x.way(1, 0, 4), 0);
            Due.is("one COND", x.way(1, 0, 1), 1);
            Due.is("COST", x.cost(0), 3 * 2);
            Due.is("a FAULT between", Due.read(x, full + full + "ask"), 1);
            Due.is("COST", x.cost(0), 3 * 2);
            Due.is("read of one write", Due.read(x, "write share 1 into 2 rows 5;"), 0);
            Due.is("DEEDS", x.count(1), 1);
            Due.is("a write", x.way(0, 0, 0), -2);
            Due.is("COST", x.cost(0), 5);
        }
        nothingStays();
        Due.is("read of no DEEDS", Due.read(x, "\n"), 0);
        Due.is("DEEDS", x.count(1), 0);
        Due.is("COST", x.cost(0), 0);
    }

    /** By whose INDEX the DEED of the text ahead could go must not matter for the one in its place. */
    private static void nothingStays() {
        TunerGame x = new TunerGame();
        x.table(2);
        x.table(1);
        for (int n = 0; n < 64; n++) {
            x.row(0, n < 4 ? 3 : 15, n % 4, 0, 0);
        }
        for (int n = 0; n < 17; n++) {
            x.row(1, 5, 0, 0, 0);
        }
        x.index(0, 0, -1, -1, 0);
        String full = "ask share 1 from 0 where 0 == 3 join 0 on 0 = 0 order 0;";
        String[] texts = {"write share 1 into 1 rows 5;", "ask share 1 from 0 where 0 == 3 order 1;",
            "ask share 1 from 0 where 0 == 3 join 1 on 0 = 0;", "ask share 1 from 1 where 0 == 3;"};
        int[] want = {5, 6 + 12, 6 + 3 * 4, 3};
        for (int n = 0; n < texts.length; n++) {
            Due.is("read of an ask by an INDEX", Due.read(x, full), 0);
            Due.is("ACCESS 6, no SORT, JOIN 4 times 6", x.deed(0, 1), 30);
            Due.is("read of " + texts[n], Due.read(x, texts[n]), 0);
            Due.is("what it costs", x.deed(0, 1), want[n]);
        }
    }
}
