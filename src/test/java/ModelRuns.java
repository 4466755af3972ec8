import java.util.ArrayList;
import java.util.List;
import java.util.Random;

/** Runs of calls by chance, always the same ones, held against the document written a second time (Model). */
public final class ModelRuns {
    private static final int RUNS = 500;
    /** A text may take some 100 calls more: an object is promised for 512. */
    private static final int CALLS = 400;
    private static final int[] ODD = {-1, -2, 0, 16, 101, 801, 256, 65, Integer.MIN_VALUE, Integer.MAX_VALUE};

    private final Random chance;
    private final TunerGame x = new TunerGame();
    private final Model y = new Model();
    private final int run;
    private int calls = 0;

    private ModelRuns(int run) {
        this.run = run;
        this.chance = new Random(run);
    }

    public static void main(String[] args) {
        int[] faults = new int[6];
        for (int run = 0; run < RUNS; run++) {
            new ModelRuns(run).go(faults);
        }
        for (int fault = 0; fault < 6; fault++) {
            Due.is("texts with FAULT " + fault + " are among the runs", faults[fault] > 20, true);
        }
        Due.end();
    }

    private void go(int[] faults) {
        tell();
        while (calls < CALLS) {
            switch (chance.nextInt(12)) {
                case 0 -> read(faults);
                case 1 -> tellMore();
                case 2, 3 -> due("play", x::play, y::play, n(10) - 1);
                case 4 -> learner();
                default -> ask();
            }
        }
    }

    private interface One {
        int of(int a);
    }

    private void due(String name, long got, long want) {
        calls++;
        Due.is("run " + run + ", call " + calls + ": " + name, got, want);
    }

    private void due(String name, One got, One want, int a) {
        due(name + "(" + a + ")", got.of(a), want.of(a));
    }

    /** One of 0 .. below - 1, and now and then something odd. */
    private int n(int below) {
        return chance.nextInt(60) == 0 ? ODD[chance.nextInt(ODD.length)] : chance.nextInt(below);
    }

    private void tell() {
        int tables = 1 + chance.nextInt(4);
        for (int t = 0; t < tables; t++) {
            due("table", x::table, y::table, 1 + n(4));
        }
        int spread = 1 + chance.nextInt(chance.nextBoolean() ? 2 : 8);
        int rows = chance.nextInt(220);
        for (int r = 0; r < rows; r++) {
            row(spread);
        }
        room();
        budget();
        int moves = chance.nextInt(9);
        for (int m = 0; m < moves; m++) {
            move();
        }
        read(new int[6]);
    }

    private void row(int spread) {
        int table = n(y.widths.isEmpty() ? 1 : y.widths.size());
        int width = table >= 0 && table < y.widths.size() ? y.widths.get(table) : 4;
        int[] v = new int[4];
        for (int c = 0; c < 4; c++) {
            v[c] = c < width || chance.nextInt(200) == 0 ? n(1 + chance.nextInt(spread * 2)) : 0;
        }
        due("row", x.row(table, v[0], v[1], v[2], v[3]), y.row(table, v[0], v[1], v[2], v[3]));
    }

    private void room() {
        int r = n(chance.nextBoolean() ? 12 : 70);
        due("room(" + r + ")", x.room(r) ? 1 : 0, y.room(r) ? 1 : 0);
    }

    private void budget() {
        int b = n(chance.nextInt(3) == 0 ? 4 : chance.nextBoolean() ? 12 : 40);
        due("budget(" + b + ")", x.budget(b) ? 1 : 0, y.budget(b) ? 1 : 0);
    }

    private void move() {
        int price = n(6);
        if (chance.nextInt(3) == 0) {
            int more = n(chance.nextBoolean() ? 6 : 65);
            due("more(" + more + ", " + price + ")", x.more(more, price), y.more(more, price));
            return;
        }
        int t = n(y.widths.isEmpty() ? 1 : y.widths.size());
        int a = n(4);
        int b = chance.nextInt(3) == 0 ? -1 : n(4);
        int c = chance.nextInt(2) == 0 ? -1 : n(4);
        due("index(" + t + ", " + a + ", " + b + ", " + c + ", " + price + ")",
                x.index(t, a, b, c, price), y.index(t, a, b, c, price));
    }

    private void tellMore() {
        switch (chance.nextInt(5)) {
            case 0 -> due("table", x::table, y::table, n(6));
            case 1 -> row(4);
            case 2 -> room();
            case 3 -> budget();
            default -> move();
        }
    }

    private void read(int[] faults) {
        String text = text();
        for (int at = 0; at < text.length(); at += 20) {
            int[] w = new int[5];
            for (int n = 0; n < 20; n++) {
                w[n / 4] = w[n / 4] << 8 | (at + n < text.length() ? text.charAt(at + n) & 255 : 32);
            }
            due("feed", x.feed(w[0], w[1], w[2], w[3], w[4]), y.feed(w[0], w[1], w[2], w[3], w[4]));
        }
        due("back", x::back, y::back, chance.nextInt(30) == 0 ? n(30) : (20 - text.length() % 20) % 20);
        int fault = y.read();
        due("read of " + text, x.read(), fault);
        due("place of " + text, x.place(), y.place);
        faults[fault]++;
    }

    private String text() {
        List<String> tokens = new ArrayList<>();
        int deeds = chance.nextInt(6) == 0 ? 7 + chance.nextInt(3) : 1 + chance.nextInt(5);
        for (int k = 0; k < deeds; k++) {
            deed(tokens);
        }
        if (chance.nextInt(3) == 0) {
            spoil(tokens);
        }
        return join(tokens);
    }

    private void deed(List<String> to) {
        int t = y.widths.isEmpty() ? 0 : chance.nextInt(y.widths.size() * 20 + 1) / 20;
        String share = "" + (chance.nextInt(60) == 0 ? 1000 + chance.nextInt(2) : chance.nextInt(12));
        if (chance.nextInt(4) == 0) {
            String rows = "" + (chance.nextInt(30) == 0 ? chance.nextInt(2) * 101 : 1 + chance.nextInt(9));
            to.addAll(List.of("write", "share", share, "into", "" + t, "rows", rows, ";"));
            return;
        }
        to.addAll(List.of("ask", "share", share, "from", "" + t));
        List<Integer> free = new ArrayList<>(List.of(0, 1, 2, 3));
        int conds = chance.nextInt(4) == 0 ? 0 : 1 + chance.nextInt(chance.nextInt(15) == 0 ? 5 : 3);
        for (int n = 0; n < conds; n++) {
            int width = t < y.widths.size() ? y.widths.get(t) : 4;
            free.removeIf(c -> c >= width);
            if (free.isEmpty() && chance.nextInt(12) != 0) {
                break;
            }
            int column = free.isEmpty() || chance.nextInt(60) == 0 ? chance.nextInt(5) : free.remove(chance.nextInt(free.size()));
            to.addAll(List.of(n == 0 ? "where" : "and", "" + column, chance.nextInt(3) == 0 ? "<" : "==",
                    "" + (chance.nextInt(60) == 0 ? 15 + chance.nextInt(2) : chance.nextInt(6))));
        }
        if (chance.nextBoolean()) {
            int other = y.widths.isEmpty() ? 0 : chance.nextInt(y.widths.size() * 20 + 1) / 20;
            to.addAll(List.of("join", "" + other, "on", "" + column(t), "=", "" + column(other)));
        }
        if (chance.nextBoolean()) {
            to.addAll(List.of("order", "" + column(t)));
        }
        to.add(";");
    }

    private int column(int table) {
        int width = table < y.widths.size() ? y.widths.get(table) : 4;
        return chance.nextInt(40) == 0 ? chance.nextInt(5) : chance.nextInt(width);
    }

    private static final String[] ANY = {"ask", "share", "from", "where", "and", "join", "on", "order", "write", "into",
        "rows", ";", "==", "<", "=", "0", "1", "00002", "0003", "x", "abcdefgh", "abcdefghi", "===", "!", ".", "\u00ff", "A"};

    private void spoil(List<String> tokens) {
        int at = chance.nextInt(tokens.size());
        String any = ANY[chance.nextInt(ANY.length)];
        switch (chance.nextInt(4)) {
            case 0 -> tokens.remove(at);
            case 1 -> tokens.set(at, any);
            case 2 -> tokens.add(at, any);
            default -> tokens.subList(at, tokens.size()).clear();
        }
    }

    private String join(List<String> tokens) {
        StringBuilder text = new StringBuilder();
        boolean tight = chance.nextInt(3) == 0;
        for (String token : tokens) {
            boolean touches = text.length() > 0 && Character.isLetterOrDigit(text.charAt(text.length() - 1))
                    && Character.isLetter(token.charAt(0)) && Character.isLetter(text.charAt(text.length() - 1));
            if (!tight || touches) {
                text.append(" \t\n\r  ".charAt(chance.nextInt(6)));
            }
            text.append(token);
        }
        return text.substring(0, Math.min(text.length(), 1990));
    }

    private void learner() {
        if (chance.nextInt(3) == 0) {
            due("undo", x.undo(), y.undo());
        }
        due("marks", x.marks(), y.marks());
        due("ideas", x.ideas(), y.ideas());
        due("hint", x.hint(), y.hint());
        for (int i = 0; i < 6; i++) {
            due("foretells", x::foretells, y::foretells, n(7));
        }
        for (int i = 0; i < 3; i++) {
            due("explained", x::explained, y::explained, n(5));
        }
    }

    private void ask() {
        int set = n(1 << y.moves.size());
        int k = n(y.deeds.isEmpty() ? 1 : y.deeds.size());
        int i = n(y.done.isEmpty() ? 1 : y.done.size());
        int what = n(6);
        switch (chance.nextInt(7)) {
            case 0 -> due("cost", x::cost, y::cost, set);
            case 1 -> due("deed(" + k + ", " + set + ")", x.deed(k, set), y.deed(k, set));
            case 2, 3 -> due("way(" + k + ", " + set + ", " + what + ")", x.way(k, set, what), y.way(k, set, what));
            case 4 -> due("done", x::done, y::done, i);
            case 5 -> due("saved(" + i + ", " + k + ")", x.saved(i, k), y.saved(i, k));
            default -> {
                due("count", x::count, y::count, n(9));
                if (chance.nextInt(4) == 0) {
                    due("best", x.best(), y.best());
                }
            }
        }
    }
}
