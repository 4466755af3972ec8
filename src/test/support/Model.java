import java.util.ArrayList;
import java.util.Comparator;
import java.util.List;
import java.util.Map;
import java.util.regex.Matcher;
import java.util.regex.Pattern;

/**
 * The document written a second time, as plainly and as slowly as it reads: nothing is kept that can be
 * worked out again, and TOKENS and the grammar are told in another way than in the class.
 */
final class Model {
    record Cond(int column, boolean less, int value) {
    }

    record Deed(boolean writes, int share, int table, int written, List<Cond> conds, int[] join, int order) {
    }

    record Move(int table, List<Integer> columns, int room, int price) {
        boolean isIndex() {
            return room == 0;
        }
    }

    record Way(int access, int r, int sort, int joinMove, int join, int total) {
    }

    private static final Pattern TOKEN = Pattern.compile("[a-z]+|[0-9]+|==|[;<=]|[^ \t\n\r]", Pattern.DOTALL);

    /** From each state of an automaton: the TOKENS (i: an INT) that may come, each with the state behind it. */
    private static final Map<Integer, Map<String, Integer>> NEXT = Map.ofEntries(
            Map.entry(0, Map.of("ask", 1, "write", 30)),
            Map.entry(1, Map.of("share", 2)), Map.entry(2, Map.of("i", 3)), Map.entry(3, Map.of("from", 4)),
            Map.entry(4, Map.of("i", 5)),
            Map.entry(5, Map.of("where", 6, "join", 10, "order", 16, ";", 0)),
            Map.entry(6, Map.of("i", 7)), Map.entry(7, Map.of("==", 8, "<", 8)), Map.entry(8, Map.of("i", 9)),
            Map.entry(9, Map.of("and", 6, "join", 10, "order", 16, ";", 0)),
            Map.entry(10, Map.of("i", 11)), Map.entry(11, Map.of("on", 12)), Map.entry(12, Map.of("i", 13)),
            Map.entry(13, Map.of("=", 14)), Map.entry(14, Map.of("i", 15)),
            Map.entry(15, Map.of("order", 16, ";", 0)),
            Map.entry(16, Map.of("i", 17)), Map.entry(17, Map.of(";", 0)),
            Map.entry(30, Map.of("share", 31)), Map.entry(31, Map.of("i", 32)), Map.entry(32, Map.of("into", 33)),
            Map.entry(33, Map.of("i", 34)), Map.entry(34, Map.of("rows", 35)), Map.entry(35, Map.of("i", 36)),
            Map.entry(36, Map.of(";", 0)));

    final List<Integer> widths = new ArrayList<>();
    final List<List<int[]>> tables = new ArrayList<>();
    final List<Move> moves = new ArrayList<>();
    final List<Integer> done = new ArrayList<>();
    List<Deed> deeds = new ArrayList<>();
    StringBuilder tape = new StringBuilder();
    int room = 0;
    int budget = 0;
    int place = -1;

    int feed(int a, int b, int c, int d, int e) {
        if (tape.length() > 1980) {
            return -1;
        }
        for (int word : new int[] {a, b, c, d, e}) {
            for (int n = 3; n >= 0; n--) {
                tape.append((char) (word >>> 8 * n & 255));
            }
        }
        return tape.length();
    }

    int back(int n) {
        if (n < 0 || n > tape.length()) {
            return -1;
        }
        tape.setLength(tape.length() - n);
        return tape.length();
    }

    int read() {
        String text = tape.toString();
        tape = new StringBuilder();
        List<String> words = new ArrayList<>();
        List<Integer> places = new ArrayList<>();
        Matcher m = TOKEN.matcher(text);
        while (m.find()) {
            words.add(m.group());
            places.add(m.start());
        }
        int[] fault = shapeFault(words, places, text.length());
        if (fault == null) {
            fault = senseFault(words, places);
        }
        place = fault == null ? -1 : fault[0];
        if (fault == null) {
            deeds = build(words);
        }
        return fault == null ? 0 : fault[1];
    }

    private static int[] shapeFault(List<String> words, List<Integer> places, int length) {
        int state = 0;
        int deedsSeen = 0;
        int conds = 0;
        for (int n = 0; n < words.size(); n++) {
            String word = words.get(n);
            boolean isInt = word.matches("[0-9]{1,4}");
            boolean isToken = isInt || word.matches("[a-z]{1,8}|==|[;<=]");
            Integer next = isToken ? NEXT.get(state).get(isInt ? "i" : word) : null;
            if (next == null) {
                return new int[] {places.get(n), 1};
            }
            if (state == 0) {
                deedsSeen++;
                conds = 0;
            }
            if (state == 6) {
                conds++;
            }
            if (n >= 300 || deedsSeen > 8 || conds > 4) {
                return new int[] {places.get(n), 2};
            }
            state = next;
        }
        return state == 0 ? null : new int[] {length, 1};
    }

    /** All FAULTS of the kinds 3 to 5 are found, and then the first by place and number is taken. */
    private int[] senseFault(List<String> words, List<Integer> places) {
        List<int[]> found = new ArrayList<>();
        List<Integer> columns = new ArrayList<>();
        int state = 0;
        int table = -1;
        int other = -1;
        for (int n = 0; n < words.size(); n++) {
            String word = words.get(n);
            int at = places.get(n);
            boolean isInt = Character.isDigit(word.charAt(0));
            int v = isInt ? Integer.parseInt(word) : -1;
            switch (state) {
                case 0 -> columns.clear();
                case 2, 31 -> add(found, v > 1000, at, 5);
                case 4, 33 -> {
                    table = v;
                    add(found, v >= widths.size(), at, 4);
                }
                case 6 -> {
                    add(found, lacks(table, v), at, 4);
                    add(found, columns.contains(v), at, 3);
                    columns.add(v);
                }
                case 8 -> add(found, v > 15, at, 5);
                case 10 -> {
                    other = v;
                    add(found, v >= widths.size(), at, 4);
                }
                case 12, 16 -> add(found, lacks(table, v), at, 4);
                case 14 -> add(found, lacks(other, v), at, 4);
                case 35 -> add(found, v == 0 || v > 100, at, 5);
                default -> {
                }
            }
            state = NEXT.get(state).get(isInt ? "i" : word);
        }
        return found.stream().min(Comparator.<int[]>comparingInt(f -> f[0]).thenComparingInt(f -> f[1])).orElse(null);
    }

    private static void add(List<int[]> found, boolean isFault, int at, int number) {
        if (isFault) {
            found.add(new int[] {at, number});
        }
    }

    private boolean lacks(int table, int column) {
        return table >= widths.size() || column >= widths.get(table);
    }

    private static List<Deed> build(List<String> words) {
        List<Deed> all = new ArrayList<>();
        int from = 0;
        for (int n = 0; n < words.size(); n++) {
            if (words.get(n).equals(";")) {
                all.add(buildDeed(words.subList(from, n)));
                from = n + 1;
            }
        }
        return all;
    }

    private static Deed buildDeed(List<String> w) {
        int share = Integer.parseInt(w.get(2));
        int table = Integer.parseInt(w.get(4));
        if (w.get(0).equals("write")) {
            return new Deed(true, share, table, Integer.parseInt(w.get(6)), List.of(), null, -1);
        }
        List<Cond> conds = new ArrayList<>();
        int[] join = null;
        int order = -1;
        for (int n = 5; n < w.size(); n++) {
            switch (w.get(n)) {
                case "where", "and" -> conds.add(new Cond(Integer.parseInt(w.get(n + 1)),
                        w.get(n + 2).equals("<"), Integer.parseInt(w.get(n + 3))));
                case "join" -> join = new int[] {Integer.parseInt(w.get(n + 1)),
                    Integer.parseInt(w.get(n + 3)), Integer.parseInt(w.get(n + 5))};
                case "order" -> order = Integer.parseInt(w.get(n + 1));
                default -> {
                }
            }
        }
        return new Deed(false, share, table, 0, conds, join, order);
    }

    int table(int columns) {
        if (widths.size() == 4 || columns < 1 || columns > 4) {
            return -1;
        }
        widths.add(columns);
        tables.add(new ArrayList<>());
        return widths.size() - 1;
    }

    int row(int table, int a, int b, int c, int d) {
        if (table < 0 || table >= widths.size() || tables.get(table).size() == 64) {
            return -1;
        }
        int[] values = {a, b, c, d};
        for (int n = 0; n < 4; n++) {
            if (values[n] < 0 || values[n] > 15 || n >= widths.get(table) && values[n] != 0) {
                return -1;
            }
        }
        tables.get(table).add(values);
        return tables.get(table).size();
    }

    boolean room(int r) {
        boolean fits = r >= 0 && r <= 255;
        room = fits ? r : room;
        return fits;
    }

    boolean budget(int b) {
        boolean fits = b >= 0 && b <= 800;
        budget = fits ? b : budget;
        return fits;
    }

    int index(int table, int a, int b, int c, int price) {
        if (table < 0 || table >= widths.size() || price < 0 || price > 100 || moves.size() == 8 || b == -1 && c != -1) {
            return -1;
        }
        List<Integer> columns = new ArrayList<>(List.of(a));
        if (b != -1) {
            columns.add(b);
        }
        if (c != -1) {
            columns.add(c);
        }
        boolean there = columns.stream().allMatch(n -> n >= 0 && n < widths.get(table));
        if (!there || columns.stream().distinct().count() != columns.size()) {
            return -1;
        }
        moves.add(new Move(table, columns, 0, price));
        return moves.size() - 1;
    }

    int more(int more, int price) {
        if (moves.size() == 8 || more < 1 || more > 64 || price < 0 || price > 100) {
            return -1;
        }
        moves.add(new Move(-1, List.of(), more, price));
        return moves.size() - 1;
    }

    private List<Integer> members(int set) {
        List<Integer> in = new ArrayList<>();
        for (int m = 0; m < moves.size(); m++) {
            if ((set & 1 << m) != 0) {
                in.add(m);
            }
        }
        return in;
    }

    private boolean noSet(int set) {
        return set < 0 || set >= 1 << moves.size();
    }

    private boolean noDeed(int k) {
        return k < 0 || k >= deeds.size();
    }

    private static int up(int n, int by) {
        return n / by + (n % by == 0 ? 0 : 1);
    }

    private static boolean holds(int[] row, List<Cond> conds) {
        return conds.stream().allMatch(c -> c.less ? row[c.column] < c.value : row[c.column] == c.value);
    }

    private static Cond on(Deed deed, int column) {
        return deed.conds.stream().filter(c -> c.column == column).findFirst().orElse(null);
    }

    private Way wayOf(Deed deed, int set) {
        int roomThen = room + members(set).stream().mapToInt(m -> moves.get(m).room).sum();
        List<int[]> rows = tables.get(deed.table);
        List<int[]> hit = rows.stream().filter(row -> holds(row, deed.conds)).toList();
        int r = hit.size();
        int sorting = deed.order == -1 ? 0 : r <= roomThen ? r : 3 * r;
        int access = -1;
        int leastAccess = up(rows.size(), 8);
        int leastSort = sorting;
        for (int m : members(set)) {
            Move move = moves.get(m);
            if (!move.isIndex() || move.table != deed.table) {
                continue;
            }
            List<Cond> used = new ArrayList<>();
            List<Integer> byEqual = new ArrayList<>();
            for (int column : move.columns) {
                Cond cond = on(deed, column);
                if (cond == null) {
                    break;
                }
                used.add(cond);
                if (cond.less) {
                    break;
                }
                byEqual.add(column);
            }
            if (used.isEmpty()) {
                continue;
            }
            int hits = (int) rows.stream().filter(row -> holds(row, used)).count();
            int spot = move.columns.indexOf(deed.order);
            boolean sorted = spot >= 0 && byEqual.containsAll(move.columns.subList(0, spot));
            int cost = 1 + up(hits, 16) + hits;
            int sort = sorted ? 0 : sorting;
            if (cost + sort < leastAccess + leastSort) {
                access = m;
                leastAccess = cost;
                leastSort = sort;
            }
        }
        int[] joined = deed.join == null ? new int[] {-1, 0} : joinOf(deed, hit, set, roomThen);
        return new Way(access, r, leastSort, joined[0], joined[1], leastAccess + leastSort + joined[1]);
    }

    private int[] joinOf(Deed deed, List<int[]> hit, int set, int roomThen) {
        List<int[]> other = tables.get(deed.join[0]);
        int pages = up(other.size(), 8);
        int least = pages * hit.size();
        if (other.size() <= roomThen && pages + hit.size() < least) {
            least = pages + hit.size();
        }
        int by = -1;
        for (int m : members(set)) {
            Move move = moves.get(m);
            if (move.isIndex() && move.table == deed.join[0] && move.columns.get(0) == deed.join[2]) {
                int sum = 0;
                for (int[] row : hit) {
                    int k = (int) other.stream().filter(o -> o[deed.join[2]] == row[deed.join[1]]).count();
                    sum += 1 + up(k, 16) + k;
                }
                if (sum < least) {
                    least = sum;
                    by = m;
                }
            }
        }
        return new int[] {by, least};
    }

    private int deedCost(Deed deed, int set) {
        if (!deed.writes) {
            return wayOf(deed, set).total;
        }
        long indexes = members(set).stream().filter(m -> moves.get(m).isIndex() && moves.get(m).table == deed.table).count();
        return deed.written + (int) (2 * deed.written * indexes);
    }

    private int costOf(int set) {
        return deeds.stream().mapToInt(deed -> deed.share * deedCost(deed, set)).sum();
    }

    private int prices(int set) {
        return members(set).stream().mapToInt(m -> moves.get(m).price).sum();
    }

    int cost(int set) {
        return noSet(set) ? -1 : costOf(set);
    }

    int deed(int k, int set) {
        return noSet(set) || noDeed(k) ? -1 : deedCost(deeds.get(k), set);
    }

    int way(int k, int set, int what) {
        if (noSet(set) || noDeed(k) || what < 0 || what > 4) {
            return -3;
        }
        if (deeds.get(k).writes) {
            return -2;
        }
        Way way = wayOf(deeds.get(k), set);
        return new int[] {way.access, way.r, way.sort, way.joinMove, way.join}[what];
    }

    /** Below 0 if a is the first of two sets by who is in. */
    private static int byWhoIsIn(int a, int b) {
        for (int m = 0; m < 8; m++) {
            boolean inA = (a & 1 << m) != 0;
            boolean inB = (b & 1 << m) != 0;
            if (inA != inB) {
                return inA ? -1 : 1;
            }
        }
        return 0;
    }

    int best() {
        List<int[]> all = new ArrayList<>();
        for (int set = 0; set < 1 << moves.size(); set++) {
            if (prices(set) <= budget) {
                all.add(new int[] {set, costOf(set), prices(set), Integer.bitCount(set)});
            }
        }
        return all.stream().min(Comparator.<int[]>comparingInt(s -> s[1]).thenComparingInt(s -> s[2])
                .thenComparingInt(s -> s[3]).thenComparing((s, t) -> byWhoIsIn(s[0], t[0]))).get()[0];
    }

    private int doneSet(int first) {
        return done.subList(0, first).stream().mapToInt(m -> 1 << m).sum();
    }

    int play(int move) {
        if (move < 0 || move >= moves.size() || done.contains(move)) {
            return -1;
        }
        if (prices(doneSet(done.size())) + moves.get(move).price > budget) {
            return -2;
        }
        done.add(move);
        return done.size();
    }

    int undo() {
        return done.isEmpty() ? -1 : done.remove(done.size() - 1);
    }

    int done(int i) {
        return i < 0 || i >= done.size() ? -1 : done.get(i);
    }

    int marks() {
        long none = costOf(0);
        long mine = none - costOf(doneSet(done.size()));
        long most = none - costOf(best());
        if (most == 0) {
            return mine < 0 ? 0 : 100;
        }
        return mine < 0 ? 0 : (int) Math.min(100, 100 * mine / most);
    }

    private int foretold(int idea, int set) {
        List<Integer> may = new ArrayList<>();
        for (int m = 0; m < moves.size(); m++) {
            if ((set & 1 << m) == 0 && prices(set) + moves.get(m).price <= budget) {
                may.add(m);
            }
        }
        Comparator<Integer> most = switch (idea) {
            case 1 -> Comparator.comparingInt(m -> -moves.get(m).price);
            case 2 -> Comparator.comparingInt(m -> moves.get(m).columns.size());
            case 3 -> Comparator.comparingInt(m -> costOf(set) - costOf(set | 1 << m));
            case 4 -> Comparator.comparingInt(m -> moves.get(m).room);
            default -> Comparator.comparingInt(m -> 0);
        };
        int asked = deeds.stream().filter(d -> !d.writes).mapToInt(Deed::share).max().orElse(-1);
        int askTable = deeds.stream().filter(d -> !d.writes && d.share == asked).mapToInt(Deed::table).findFirst().orElse(-2);
        return may.stream().filter(m -> switch (idea) {
            case 2 -> moves.get(m).isIndex();
            case 4 -> !moves.get(m).isIndex();
            case 5 -> moves.get(m).isIndex() && moves.get(m).table == askTable;
            default -> true;
        }).max(most.thenComparing(Comparator.reverseOrder())).orElse(-1);
    }

    int foretells(int i) {
        return i < 0 || i > 5 ? -1 : foretold(i, doneSet(done.size()));
    }

    int explained(int i) {
        if (i < 0 || i >= done.size()) {
            return -1;
        }
        int set = 0;
        for (int idea = 0; idea < 6; idea++) {
            set += foretold(idea, doneSet(i)) == done.get(i) ? 1 << idea : 0;
        }
        return set;
    }

    int ideas() {
        List<Integer> wanted = new ArrayList<>();
        for (int i = 0; i < done.size(); i++) {
            if (explained(i) != 0) {
                wanted.add(explained(i));
            }
        }
        List<Integer> all = new ArrayList<>();
        for (int set = 0; set < 64; set++) {
            int those = set;
            if (wanted.stream().allMatch(w -> (w & those) != 0)) {
                all.add(set);
            }
        }
        return all.stream().min(Comparator.<Integer>comparingInt(Integer::bitCount).thenComparing(Model::byWhoIsIn)).get();
    }

    int hint() {
        int set = doneSet(done.size());
        int now = costOf(set);
        return members(best() & ~set).stream()
                .max(Comparator.<Integer>comparingInt(m -> now - costOf(set | 1 << m)).thenComparing(Comparator.reverseOrder()))
                .orElse(-1);
    }

    int saved(int i, int k) {
        if (i < 0 || i >= done.size() || noDeed(k)) {
            return -1000000;
        }
        Deed deed = deeds.get(k);
        return deed.share * deedCost(deed, doneSet(i)) - deed.share * deedCost(deed, doneSet(i + 1));
    }

    int count(int what) {
        int sets = 0;
        for (int set = 0; set < 1 << moves.size(); set++) {
            sets += prices(set) <= budget ? 1 : 0;
        }
        int[] counts = {widths.size(), deeds.size(), moves.size(), done.size(), prices(doneSet(done.size())),
            room, budget, sets, tape.length()};
        return what < 0 || what > 8 ? -1 : counts[what];
    }
}
