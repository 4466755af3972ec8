/**
 * A school of store tuning: what questions and writes cost with some INDEXES and ROOM, the best
 * MOVES that a BUDGET allows, and a learner whose MOVES are marked, explained and hinted at.
 * The words in capitals are those of the document.
 */
public final class TunerGame {
    public static final int NONE = -1;

    private static final int MOST_TABLES = 4;
    private static final int MOST_COLUMNS = 4;
    private static final int MOST_ROWS = 64;
    private static final int MOST_VALUE = 15;
    private static final int PAGE_ROWS = 8;
    private static final int LEAF_ROWS = 16;
    private static final int MOST_MOVES = 8;
    private static final int MOST_INDEX_COLUMNS = 3;
    private static final int MOST_PRICE = 100;
    private static final int MOST_ROOM = 255;
    private static final int MOST_ROOM_MORE = 64;
    private static final int MOST_BUDGET = 800;
    private static final int MOST_BYTES = 2000;
    private static final int FEED_BYTES = 20;
    private static final int MOST_TOKENS = 300;
    private static final int MOST_LETTERS = 8;
    private static final int MOST_DIGITS = 4;
    private static final int MOST_DEEDS = 8;
    private static final int MOST_CONDS = 4;
    private static final int MOST_SHARE = 1000;
    private static final int MOST_WRITTEN = 100;

    private static final int IDEA_COUNT = 6;
    private static final int IDEA_CHEAPEST = 1;
    private static final int IDEA_WIDEST = 2;
    private static final int IDEA_SAVES_MOST = 3;
    private static final int IDEA_MOST_ROOM = 4;
    private static final int IDEA_GREATEST_ASK = 5;

    private static final int BEYOND_BUDGET = -2;
    private static final int WAY_OF_WRITE = -2;
    private static final int NO_WAY = -3;
    private static final int NOT_SAVED = -1000000;

    private final Table[] tables = new Table[MOST_TABLES];
    private int tableCount = 0;
    private final Move[] moves = new Move[MOST_MOVES];
    private int moveCount = 0;
    private final Tape tape = new Tape();
    private final Parser parser = new Parser();
    private Deed[] deeds = new Deed[MOST_DEEDS];
    private int deedCount = 0;
    private final Plan[] plans = new Plan[MOST_DEEDS];
    private final int[] played = new int[MOST_MOVES];
    private int playedCount = 0;
    /** Kept between calls only so that ideas() makes no new row. */
    private final int[] explainersOf = new int[MOST_MOVES];
    private int ownRoom = 0;
    private int purse = 0;
    private int faultPlace = NONE;

    public TunerGame() {
        for (int t = 0; t < MOST_TABLES; t++) {
            tables[t] = new Table();
        }
        for (int m = 0; m < MOST_MOVES; m++) {
            moves[m] = new Move();
        }
        for (int k = 0; k < MOST_DEEDS; k++) {
            deeds[k] = new Deed();
            plans[k] = new Plan();
        }
    }

    public int feed(int a, int b, int c, int d, int e) {
        if (tape.length + FEED_BYTES > MOST_BYTES) {
            return NONE;
        }
        tape.append(a);
        tape.append(b);
        tape.append(c);
        tape.append(d);
        tape.append(e);
        return tape.length;
    }

    public int back(int n) {
        if (n < 0 || n > tape.length) {
            return NONE;
        }
        tape.length -= n;
        return tape.length;
    }

    public int read() {
        parser.parse(tape);
        tape.length = 0;
        faultPlace = parser.place;
        if (parser.fault == 0) {
            deeds = parser.swapDrafts(deeds);
            deedCount = parser.deedCount;
            measureDeeds();
        }
        return parser.fault;
    }

    public int place() {
        return faultPlace;
    }

    public int table(int columns) {
        if (tableCount >= MOST_TABLES || columns < 1 || columns > MOST_COLUMNS) {
            return NONE;
        }
        int number = tableCount;
        tables[number].columns = columns;
        parser.widths[number] = columns;
        tableCount++;
        return number;
    }

    public int row(int table, int a, int b, int c, int d) {
        if (!isTable(table)) {
            return NONE;
        }
        Table grown = tables[table];
        if (grown.rows >= MOST_ROWS || !grown.takesValue(0, a) || !grown.takesValue(1, b)
                || !grown.takesValue(2, c) || !grown.takesValue(3, d)) {
            return NONE;
        }
        grown.append(a, b, c, d);
        measureDeeds();
        return grown.rows;
    }

    public boolean room(int r) {
        if (r < 0 || r > MOST_ROOM) {
            return false;
        }
        ownRoom = r;
        return true;
    }

    public boolean budget(int b) {
        if (b < 0 || b > MOST_BUDGET) {
            return false;
        }
        purse = b;
        return true;
    }

    public int index(int table, int a, int b, int c, int price) {
        if (moveCount >= MOST_MOVES || !isTable(table) || !isPrice(price)
                || !tables[table].canIndex(a, b, c)) {
            return NONE;
        }
        moves[moveCount].becomeIndex(table, a, b, c, price);
        return addMove();
    }

    public int more(int room, int price) {
        if (moveCount >= MOST_MOVES || room < 1 || room > MOST_ROOM_MORE || !isPrice(price)) {
            return NONE;
        }
        moves[moveCount].becomeRoom(room, price);
        return addMove();
    }

    public int cost(int set) {
        return isSet(set) ? costOf(set) : NONE;
    }

    public int deed(int k, int set) {
        if (!isDeed(k) || !isSet(set)) {
            return NONE;
        }
        return plans[k].costWith(set, roomWith(set));
    }

    public int way(int k, int set, int what) {
        if (!isDeed(k) || !isSet(set) || what < 0 || what > 4) {
            return NO_WAY;
        }
        Plan plan = plans[k];
        if (plan.writes) {
            return WAY_OF_WRITE;
        }
        plan.costWith(set, roomWith(set));
        return switch (what) {
            case 0 -> plan.accessMove;
            case 1 -> plan.found;
            case 2 -> plan.sortCost;
            case 3 -> plan.joinMove;
            default -> plan.joinCost;
        };
    }

    public int best() {
        return bestSet();
    }

    public int play(int move) {
        if (move < 0 || move >= moveCount || playedCount >= MOST_MOVES || isIn(move, playedSet(playedCount))) {
            return NONE;
        }
        if (!isAffordable(playedSet(playedCount) | 1 << move)) {
            return BEYOND_BUDGET;
        }
        played[playedCount] = move;
        playedCount++;
        return playedCount;
    }

    public int undo() {
        if (playedCount == 0) {
            return NONE;
        }
        playedCount--;
        return played[playedCount];
    }

    public int done(int i) {
        return isPlayed(i) ? played[i] : NONE;
    }

    public int marks() {
        int without = costOf(0);
        int gain = without - costOf(playedSet(playedCount));
        int bestGain = without - costOf(bestSet());
        if (bestGain <= 0) {
            return gain < 0 ? 0 : 100;
        }
        long hundredths = 100L * gain / bestGain;
        return (int) Math.max(0L, Math.min(100L, hundredths));
    }

    public int foretells(int i) {
        if (i < 0 || i >= IDEA_COUNT) {
            return NONE;
        }
        return foretold(i, playedSet(playedCount));
    }

    public int explained(int i) {
        return isPlayed(i) ? explainers(i) : NONE;
    }

    public int ideas() {
        for (int i = 0; i < playedCount; i++) {
            explainersOf[i] = explainers(i);
        }
        int chosen = (1 << IDEA_COUNT) - 1;
        for (int set = 0; set < 1 << IDEA_COUNT; set++) {
            if (explainsAll(set) && isSmaller(set, chosen)) {
                chosen = set;
            }
        }
        return chosen;
    }

    public int hint() {
        int doneSet = playedSet(playedCount);
        int open = bestSet() & ~doneSet;
        int chosen = NONE;
        int least = 0;
        for (int m = 0; m < moveCount; m++) {
            if (isIn(m, open)) {
                int cost = costOf(doneSet | 1 << m);
                if (chosen == NONE || cost < least) {
                    chosen = m;
                    least = cost;
                }
            }
        }
        return chosen;
    }

    public int saved(int i, int k) {
        if (!isPlayed(i) || !isDeed(k)) {
            return NOT_SAVED;
        }
        int ahead = playedSet(i);
        int behind = playedSet(i + 1);
        int less = plans[k].costWith(ahead, roomWith(ahead)) - plans[k].costWith(behind, roomWith(behind));
        return less * deeds[k].share;
    }

    public int count(int what) {
        return switch (what) {
            case 0 -> tableCount;
            case 1 -> deedCount;
            case 2 -> moveCount;
            case 3 -> playedCount;
            case 4 -> pricesOf(playedSet(playedCount));
            case 5 -> ownRoom;
            case 6 -> purse;
            case 7 -> affordableSets();
            case 8 -> tape.length;
            default -> NONE;
        };
    }

    private boolean isTable(int table) {
        return table >= 0 && table < tableCount;
    }

    private boolean isDeed(int k) {
        return k >= 0 && k < deedCount;
    }

    private boolean isSet(int set) {
        return set >= 0 && set < 1 << moveCount;
    }

    private boolean isPlayed(int i) {
        return i >= 0 && i < playedCount;
    }

    private static boolean isPrice(int price) {
        return price >= 0 && price <= MOST_PRICE;
    }

    private static boolean isIn(int member, int set) {
        return (set >> member & 1) != 0;
    }

    private int addMove() {
        int number = moveCount;
        moveCount++;
        measureDeeds();
        return number;
    }

    /** Measured when something is told, so that going through all sets of MOVES only adds and compares. */
    private void measureDeeds() {
        for (int k = 0; k < deedCount; k++) {
            if (isTable(deeds[k].table)) {
                plans[k].measure(deeds[k], tables, moves, moveCount);
            }
        }
    }

    private int costOf(int set) {
        int roomy = roomWith(set);
        int sum = 0;
        for (int k = 0; k < deedCount; k++) {
            sum += deeds[k].share * plans[k].costWith(set, roomy);
        }
        return sum;
    }

    private int roomWith(int set) {
        int sum = ownRoom;
        for (int m = 0; m < moveCount; m++) {
            if (isIn(m, set)) {
                sum += moves[m].extraRoom;
            }
        }
        return sum;
    }

    private int pricesOf(int set) {
        int sum = 0;
        for (int m = 0; m < moveCount; m++) {
            if (isIn(m, set)) {
                sum += moves[m].price;
            }
        }
        return sum;
    }

    private boolean isAffordable(int set) {
        return pricesOf(set) <= purse;
    }

    private int affordableSets() {
        int sets = 0;
        for (int set = 0; set < 1 << moveCount; set++) {
            if (isAffordable(set)) {
                sets++;
            }
        }
        return sets;
    }

    private int bestSet() {
        int chosen = 0;
        int least = costOf(0);
        for (int set = 1; set < 1 << moveCount; set++) {
            if (isAffordable(set)) {
                int cost = costOf(set);
                if (cost < least || cost == least && isThriftier(set, chosen)) {
                    chosen = set;
                    least = cost;
                }
            }
        }
        return chosen;
    }

    private boolean isThriftier(int set, int other) {
        int prices = pricesOf(set);
        int otherPrices = pricesOf(other);
        return prices == otherPrices ? isSmaller(set, other) : prices < otherPrices;
    }

    /** Fewer members, and of as many the first by who is in. */
    private static boolean isSmaller(int set, int other) {
        int members = Integer.bitCount(set);
        int otherMembers = Integer.bitCount(other);
        if (members != otherMembers) {
            return members < otherMembers;
        }
        int unlike = set ^ other;
        return (set & unlike & -unlike) != 0;
    }

    private int playedSet(int first) {
        int set = 0;
        for (int i = 0; i < first && i < playedCount; i++) {
            set |= 1 << played[i];
        }
        return set;
    }

    private int foretold(int idea, int doneSet) {
        int chosen = NONE;
        int most = 0;
        for (int m = 0; m < moveCount; m++) {
            int withIt = doneSet | 1 << m;
            if (withIt != doneSet && isAffordable(withIt) && suits(idea, moves[m])) {
                int merit = meritOf(idea, moves[m], withIt);
                if (chosen == NONE || merit > most) {
                    chosen = m;
                    most = merit;
                }
            }
        }
        return chosen;
    }

    private boolean suits(int idea, Move move) {
        return switch (idea) {
            case IDEA_WIDEST -> move.isIndex();
            case IDEA_MOST_ROOM -> !move.isIndex();
            case IDEA_GREATEST_ASK -> move.isIndex() && move.table == greatestAskTable();
            default -> true;
        };
    }

    private int meritOf(int idea, Move move, int withIt) {
        return switch (idea) {
            case IDEA_CHEAPEST -> -move.price;
            case IDEA_WIDEST -> move.width;
            // what saves most is what leaves the least COST
            case IDEA_SAVES_MOST -> -costOf(withIt);
            case IDEA_MOST_ROOM -> move.extraRoom;
            default -> 0;
        };
    }

    private int greatestAskTable() {
        int table = NONE;
        int greatest = NONE;
        for (int k = 0; k < deedCount; k++) {
            if (!deeds[k].writes && deeds[k].share > greatest) {
                greatest = deeds[k].share;
                table = deeds[k].table;
            }
        }
        return table;
    }

    /** The IDEAS that foretell the i-th MOVE from those ahead of it. */
    private int explainers(int i) {
        int ahead = playedSet(i);
        int set = 0;
        for (int idea = 0; idea < IDEA_COUNT; idea++) {
            if (foretold(idea, ahead) == played[i]) {
                set |= 1 << idea;
            }
        }
        return set;
    }

    /** Whether a set of IDEAS has one for each MOVE that any IDEA EXPLAINS. */
    private boolean explainsAll(int set) {
        for (int i = 0; i < playedCount; i++) {
            if (explainersOf[i] != 0 && (explainersOf[i] & set) == 0) {
                return false;
            }
        }
        return true;
    }

    /** What it costs to find so many ROWS by an INDEX. */
    private static int lookupCost(int rows) {
        return 1 + (rows + LEAF_ROWS - 1) / LEAF_ROWS + rows;
    }

    private static final class Tape {
        final byte[] bytes = new byte[MOST_BYTES];
        int length = 0;

        void append(int four) {
            for (int shift = 24; shift >= 0 && length < MOST_BYTES; shift -= 8) {
                bytes[length] = (byte) (four >> shift);
                length++;
            }
        }
    }

    private static final class Table {
        int columns = 0;
        int rows = 0;
        final int[] values = new int[MOST_ROWS * MOST_COLUMNS];
        /** How many ROWS have a value, by COLUMN and value. */
        final int[] tallies = new int[MOST_COLUMNS * (MOST_VALUE + 1)];

        boolean hasColumn(int column) {
            return column >= 0 && column < columns;
        }

        boolean takesValue(int column, int value) {
            return value >= 0 && value <= (column < columns ? MOST_VALUE : 0);
        }

        void append(int a, int b, int c, int d) {
            put(0, a);
            put(1, b);
            put(2, c);
            put(3, d);
            rows++;
        }

        private void put(int column, int value) {
            values[rows * MOST_COLUMNS + column] = value;
            tallies[column * (MOST_VALUE + 1) + value]++;
        }

        /** A text's COLUMNS are held against their TABLE when it is read; no state may throw, so the place is looked at too. */
        int valueAt(int row, int column) {
            int at = row * MOST_COLUMNS + column;
            return at >= 0 && at < values.length ? values[at] : 0;
        }

        int rowsWith(int column, int value) {
            int at = column * (MOST_VALUE + 1) + value;
            return at >= 0 && at < tallies.length ? tallies[at] : 0;
        }

        int pages() {
            return (rows + PAGE_ROWS - 1) / PAGE_ROWS;
        }

        boolean canIndex(int a, int b, int c) {
            if (!hasColumn(a)) {
                return false;
            }
            if (b == NONE) {
                return c == NONE;
            }
            return hasColumn(b) && b != a && (c == NONE || hasColumn(c) && c != a && c != b);
        }
    }

    private static final class Move {
        /** The TABLE of an INDEX; NONE for ROOM. */
        int table = NONE;
        final int[] columns = new int[MOST_INDEX_COLUMNS];
        int width = 0;
        int extraRoom = 0;
        int price = 0;

        void becomeIndex(int ofTable, int a, int b, int c, int itsPrice) {
            table = ofTable;
            columns[0] = a;
            columns[1] = b;
            columns[2] = c;
            width = b == NONE ? 1 : c == NONE ? 2 : 3;
            price = itsPrice;
        }

        void becomeRoom(int rows, int itsPrice) {
            extraRoom = rows;
            price = itsPrice;
        }

        boolean isIndex() {
            return table != NONE;
        }
    }

    private static final class Deed {
        boolean writes = false;
        int share = 0;
        /** The TABLE behind from or into. */
        int table = 0;
        int written = 0;
        int condCount = 0;
        final int[] condColumns = new int[MOST_CONDS];
        final boolean[] condIsLess = new boolean[MOST_CONDS];
        final int[] condValues = new int[MOST_CONDS];
        /** The joined TABLE; NONE without. */
        int other = NONE;
        int onOwn = 0;
        int onOther = 0;
        /** The COLUMN of order; NONE without. */
        int order = NONE;

        void clear(boolean isWrite) {
            writes = isWrite;
            written = 0;
            condCount = 0;
            other = NONE;
            order = NONE;
        }

        int condOn(int column) {
            for (int n = 0; n < condCount; n++) {
                if (condColumns[n] == column) {
                    return n;
                }
            }
            return NONE;
        }

        int allConds() {
            return (1 << condCount) - 1;
        }

        /** The CONDS (bits) that an INDEX of its TABLE USES. */
        int condsUsedBy(Move move) {
            int used = 0;
            for (int n = 0; n < move.width; n++) {
                int cond = condOn(move.columns[n]);
                if (cond == NONE) {
                    return used;
                }
                used |= 1 << cond;
                if (condIsLess[cond]) {
                    return used;
                }
            }
            return used;
        }

        boolean comesSortedBy(Move move) {
            for (int n = 0; n < move.width; n++) {
                if (move.columns[n] == order) {
                    return true;
                }
                int cond = condOn(move.columns[n]);
                if (cond == NONE || condIsLess[cond]) {
                    return false;
                }
            }
            return false;
        }

        boolean holds(Table own, int row, int conds) {
            for (int n = 0; n < condCount; n++) {
                if (isIn(n, conds)) {
                    int value = own.valueAt(row, condColumns[n]);
                    if (condIsLess[n] ? value >= condValues[n] : value != condValues[n]) {
                        return false;
                    }
                }
            }
            return true;
        }

        int rowsFor(Table own, int conds) {
            int sum = 0;
            for (int row = 0; row < own.rows; row++) {
                if (holds(own, row, conds)) {
                    sum++;
                }
            }
            return sum;
        }
    }

    /** What the ways of a DEED cost, and those that it goes with a set of MOVES. */
    private static final class Plan {
        boolean writes = false;
        private int written = 0;
        /** The MOVES (bits) that are an INDEX of the TABLE. */
        private int indexMoves = 0;
        int found = 0;
        private int scanCost = 0;
        private boolean ordered = false;
        /** What ACCESS by a MOVE's INDEX costs; NONE if that is no way. */
        private final int[] entryCosts = new int[MOST_MOVES];
        private int sortedMoves = 0;
        private boolean joins = false;
        private int otherPages = 0;
        private int otherRows = 0;
        /** The MOVES (bits) by whose INDEX it can be JOINED; by each that costs the same. */
        private int joinMoves = 0;
        private int joinLookups = 0;

        int accessMove = NONE;
        private int accessCost = 0;
        int sortCost = 0;
        int joinMove = NONE;
        int joinCost = 0;

        void measure(Deed deed, Table[] tables, Move[] moves, int moveCount) {
            Table own = tables[deed.table];
            writes = deed.writes;
            written = deed.written;
            scanCost = own.pages();
            ordered = deed.order != NONE;
            found = deed.rowsFor(own, deed.allConds());
            measureIndexes(deed, own, moves, moveCount);
            joins = deed.other >= 0 && deed.other < tables.length;
            if (joins) {
                measureJoin(deed, own, tables[deed.other]);
                findJoinMoves(deed, moves, moveCount);
            }
        }

        private void measureIndexes(Deed deed, Table own, Move[] moves, int moveCount) {
            indexMoves = 0;
            sortedMoves = 0;
            for (int m = 0; m < moveCount; m++) {
                entryCosts[m] = NONE;
                if (moves[m].table == deed.table) {
                    indexMoves |= 1 << m;
                    int used = deed.condsUsedBy(moves[m]);
                    if (used != 0) {
                        entryCosts[m] = lookupCost(deed.rowsFor(own, used));
                    }
                    if (deed.comesSortedBy(moves[m])) {
                        sortedMoves |= 1 << m;
                    }
                }
            }
        }

        private void measureJoin(Deed deed, Table own, Table other) {
            otherPages = other.pages();
            otherRows = other.rows;
            joinLookups = 0;
            for (int row = 0; row < own.rows; row++) {
                if (deed.holds(own, row, deed.allConds())) {
                    int value = own.valueAt(row, deed.onOwn);
                    joinLookups += lookupCost(other.rowsWith(deed.onOther, value));
                }
            }
        }

        private void findJoinMoves(Deed deed, Move[] moves, int moveCount) {
            joinMoves = 0;
            for (int m = 0; m < moveCount; m++) {
                if (moves[m].table == deed.other && moves[m].columns[0] == deed.onOther) {
                    joinMoves |= 1 << m;
                }
            }
        }

        int costWith(int set, int roomy) {
            if (writes) {
                return written + 2 * written * Integer.bitCount(set & indexMoves);
            }
            chooseAccess(set, roomy);
            chooseJoin(set, roomy);
            return accessCost + sortCost + joinCost;
        }

        private void chooseAccess(int set, int roomy) {
            int sorting = !ordered ? 0 : found <= roomy ? found : 3 * found;
            accessMove = NONE;
            accessCost = scanCost;
            sortCost = sorting;
            for (int m = 0; m < MOST_MOVES; m++) {
                if (isIn(m, set & indexMoves) && entryCosts[m] != NONE) {
                    int sortingThen = isIn(m, sortedMoves) ? 0 : sorting;
                    if (entryCosts[m] + sortingThen < accessCost + sortCost) {
                        accessMove = m;
                        accessCost = entryCosts[m];
                        sortCost = sortingThen;
                    }
                }
            }
        }

        private void chooseJoin(int set, int roomy) {
            joinMove = NONE;
            joinCost = 0;
            if (!joins) {
                return;
            }
            joinCost = otherPages * found;
            if (otherRows <= roomy) {
                joinCost = Math.min(joinCost, otherPages + found);
            }
            for (int m = 0; m < MOST_MOVES; m++) {
                if (isIn(m, set & joinMoves) && joinLookups < joinCost) {
                    joinMove = m;
                    joinCost = joinLookups;
                }
            }
        }
    }

    /** The TOKENS of a tape, up to the first thing with which no text can go on whatever stands ahead of it. */
    private static final class Tokens {
        static final int END = 0;
        /** No TOKEN, or a WORD that stands in no text. */
        static final int BAD = 1;
        static final int INT = 2;
        static final int SEMICOLON = 3;
        static final int SAME = 4;
        static final int LESS = 5;
        static final int EQUALS = 6;
        static final int ASK = 7;
        static final int SHARE = 8;
        static final int FROM = 9;
        static final int WHERE = 10;
        static final int AND = 11;
        static final int JOIN = 12;
        static final int ON = 13;
        static final int ORDER = 14;
        static final int WRITE = 15;
        static final int INTO = 16;
        static final int ROWS = 17;

        /** One more than may be, so that the parser sees where the one too many stands. */
        final int[] kinds = new int[MOST_TOKENS + 1];
        final int[] starts = new int[MOST_TOKENS + 1];
        final int[] values = new int[MOST_TOKENS + 1];

        void scan(Tape tape) {
            int at = 0;
            for (int n = 0; n <= MOST_TOKENS; n++) {
                at = skipBlanks(tape, at);
                starts[n] = at;
                at = scanToken(tape, at, n);
                if (kinds[n] == END || kinds[n] == BAD) {
                    return;
                }
            }
        }

        private static int skipBlanks(Tape tape, int from) {
            int at = from;
            while (at < tape.length && isBlank(tape.bytes[at])) {
                at++;
            }
            return at;
        }

        private static boolean isBlank(int b) {
            return b == 9 || b == 10 || b == 13 || b == 32;
        }

        private static boolean isLetter(int b) {
            return b >= 'a' && b <= 'z';
        }

        private static boolean isDigit(int b) {
            return b >= '0' && b <= '9';
        }

        /** Answers the byte behind the TOKEN. */
        private int scanToken(Tape tape, int start, int n) {
            if (start >= tape.length) {
                kinds[n] = END;
                return start;
            }
            if (isLetter(tape.bytes[start])) {
                return scanWord(tape, start, n);
            }
            if (isDigit(tape.bytes[start])) {
                return scanInt(tape, start, n);
            }
            return scanSign(tape, start, n);
        }

        private int scanWord(Tape tape, int start, int n) {
            int end = start;
            while (end < tape.length && isLetter(tape.bytes[end])) {
                end++;
            }
            kinds[n] = end - start > MOST_LETTERS ? BAD : wordKind(tape, start, end);
            return end;
        }

        private int scanInt(Tape tape, int start, int n) {
            int end = start;
            int value = 0;
            while (end < tape.length && isDigit(tape.bytes[end])) {
                value = value * 10 + tape.bytes[end] - '0';
                end++;
            }
            kinds[n] = end - start > MOST_DIGITS ? BAD : INT;
            values[n] = value;
            return end;
        }

        private int scanSign(Tape tape, int start, int n) {
            int sign = tape.bytes[start];
            if (sign == '=' && start + 1 < tape.length && tape.bytes[start + 1] == '=') {
                kinds[n] = SAME;
                return start + 2;
            }
            kinds[n] = sign == ';' ? SEMICOLON : sign == '<' ? LESS : sign == '=' ? EQUALS : BAD;
            return start + 1;
        }

        private static int wordKind(Tape tape, int start, int end) {
            if (spells(tape, start, end, "ask")) return ASK;
            if (spells(tape, start, end, "share")) return SHARE;
            if (spells(tape, start, end, "from")) return FROM;
            if (spells(tape, start, end, "where")) return WHERE;
            if (spells(tape, start, end, "and")) return AND;
            if (spells(tape, start, end, "join")) return JOIN;
            if (spells(tape, start, end, "on")) return ON;
            if (spells(tape, start, end, "order")) return ORDER;
            if (spells(tape, start, end, "write")) return WRITE;
            if (spells(tape, start, end, "into")) return INTO;
            if (spells(tape, start, end, "rows")) return ROWS;
            return BAD;
        }

        private static boolean spells(Tape tape, int start, int end, String word) {
            if (end - start != word.length()) {
                return false;
            }
            for (int n = 0; n < word.length(); n++) {
                if (tape.bytes[start + n] != word.charAt(n)) {
                    return false;
                }
            }
            return true;
        }
    }

    private static final class Parser {
        private static final int SYNTAX = 1;
        private static final int FULL = 2;
        private static final int TWICE = 3;
        private static final int NAME = 4;
        private static final int WRONG = 5;

        /** How many COLUMNS each TABLE has; 0 if it is not there. */
        final int[] widths = new int[MOST_TABLES];
        private final Tokens tokens = new Tokens();
        private Deed[] drafts = new Deed[MOST_DEEDS];
        private int at = 0;
        int deedCount = 0;
        int fault = 0;
        int place = NONE;

        Parser() {
            for (int k = 0; k < MOST_DEEDS; k++) {
                drafts[k] = new Deed();
            }
        }

        Deed[] swapDrafts(Deed[] old) {
            Deed[] whole = drafts;
            drafts = old;
            return whole;
        }

        void parse(Tape tape) {
            tokens.scan(tape);
            at = 0;
            fault = 0;
            place = NONE;
            deedCount = 0;
            for (int k = 0; k <= MOST_DEEDS; k++) {
                if (tokens.kinds[at] == Tokens.END || !parseDeed(k)) {
                    return;
                }
                deedCount++;
            }
        }

        private boolean parseDeed(int k) {
            boolean isWrite = tokens.kinds[at] == Tokens.WRITE;
            if (!isWrite && tokens.kinds[at] != Tokens.ASK) {
                return stop(SYNTAX);
            }
            if (k >= MOST_DEEDS) {
                return stop(FULL);
            }
            drafts[k].clear(isWrite);
            return isWrite ? parseWrite(drafts[k]) : parseAsk(drafts[k]);
        }

        private boolean parseWrite(Deed deed) {
            if (!take(Tokens.WRITE) || !parseShare(deed) || !take(Tokens.INTO) || !take(Tokens.INT)) {
                return false;
            }
            deed.table = takenTable();
            if (!take(Tokens.ROWS) || !take(Tokens.INT)) {
                return false;
            }
            deed.written = taken();
            note(deed.written < 1 || deed.written > MOST_WRITTEN, WRONG);
            return take(Tokens.SEMICOLON);
        }

        private boolean parseAsk(Deed deed) {
            if (!take(Tokens.ASK) || !parseShare(deed) || !take(Tokens.FROM) || !take(Tokens.INT)) {
                return false;
            }
            deed.table = takenTable();
            return parseConds(deed) && parseJoin(deed) && parseOrder(deed) && take(Tokens.SEMICOLON);
        }

        private boolean parseShare(Deed deed) {
            if (!take(Tokens.SHARE) || !take(Tokens.INT)) {
                return false;
            }
            deed.share = taken();
            note(deed.share > MOST_SHARE, WRONG);
            return true;
        }

        private boolean parseConds(Deed deed) {
            if (tokens.kinds[at] != Tokens.WHERE) {
                return true;
            }
            // where and each and are followed by a COND, so both are taken here
            for (int n = 0; n <= MOST_CONDS; n++) {
                if (!take(n == 0 ? Tokens.WHERE : Tokens.AND) || !parseCond(deed)) {
                    return false;
                }
                if (tokens.kinds[at] != Tokens.AND) {
                    return true;
                }
            }
            return false;
        }

        private boolean parseCond(Deed deed) {
            int n = deed.condCount;
            if (n >= MOST_CONDS) {
                return stop(tokens.kinds[at] == Tokens.INT ? FULL : SYNTAX);
            }
            if (!take(Tokens.INT)) {
                return false;
            }
            note(deed.condOn(taken()) != NONE, TWICE);
            deed.condColumns[n] = takenColumn(deed.table);
            deed.condIsLess[n] = tokens.kinds[at] == Tokens.LESS;
            if (!take(deed.condIsLess[n] ? Tokens.LESS : Tokens.SAME) || !take(Tokens.INT)) {
                return false;
            }
            deed.condValues[n] = taken();
            note(deed.condValues[n] > MOST_VALUE, WRONG);
            deed.condCount++;
            return true;
        }

        private boolean parseJoin(Deed deed) {
            if (tokens.kinds[at] != Tokens.JOIN) {
                return true;
            }
            if (!take(Tokens.JOIN) || !take(Tokens.INT)) {
                return false;
            }
            deed.other = takenTable();
            if (!take(Tokens.ON) || !take(Tokens.INT)) {
                return false;
            }
            deed.onOwn = takenColumn(deed.table);
            if (!take(Tokens.EQUALS) || !take(Tokens.INT)) {
                return false;
            }
            deed.onOther = takenColumn(deed.other);
            return true;
        }

        private boolean parseOrder(Deed deed) {
            if (tokens.kinds[at] != Tokens.ORDER) {
                return true;
            }
            if (!take(Tokens.ORDER) || !take(Tokens.INT)) {
                return false;
            }
            deed.order = takenColumn(deed.table);
            return true;
        }

        private boolean take(int kind) {
            if (tokens.kinds[at] != kind) {
                return stop(SYNTAX);
            }
            if (at >= MOST_TOKENS) {
                return stop(FULL);
            }
            at++;
            return true;
        }

        /** The INT that was taken last. */
        private int taken() {
            return at > 0 ? tokens.values[at - 1] : 0;
        }

        private int takenTable() {
            int table = taken();
            note(widthOf(table) == 0, NAME);
            return table;
        }

        private int takenColumn(int table) {
            int column = taken();
            note(column >= widthOf(table), NAME);
            return column;
        }

        private int widthOf(int table) {
            return table >= 0 && table < MOST_TABLES ? widths[table] : 0;
        }

        /** SYNTAX and ROOM come ahead of all that was noted, wherever that stands. */
        private boolean stop(int number) {
            fault = number;
            place = tokens.starts[at];
            return false;
        }

        /** Of what is noted at the INT taken last the first counts: a text is gone through by its places. */
        private void note(boolean isFault, int number) {
            if (isFault && fault == 0 && at > 0) {
                fault = number;
                place = tokens.starts[at - 1];
            }
        }
    }
}
