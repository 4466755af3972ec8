/**
 * All that can be seen of an object, in some 200 calls: what it answers to the questions, and at last, which
 * changes it, what a read() makes of its tape.
 */
final class Seen {
    private Seen() {
    }

    static String of(TunerGame x) {
        StringBuilder seen = new StringBuilder();
        for (int what = 0; what <= 8; what++) {
            add(seen, x.count(what));
        }
        add(seen, x.place(), x.best(), x.marks(), x.ideas(), x.hint());
        for (int i = 0; i < 6; i++) {
            add(seen, x.foretells(i));
        }
        costs(seen, x);
        learner(seen, x);
        seen.append("| tape ");
        add(seen, x.read(), x.place(), x.count(1), x.cost(0));
        return seen.toString();
    }

    private static void costs(StringBuilder seen, TunerGame x) {
        int all = (1 << x.count(2)) - 1;
        seen.append("| costs ");
        add(seen, x.cost(0), x.cost(all), x.cost(all + 1));
        for (int m = 0; m < x.count(2); m++) {
            add(seen, x.cost(1 << m));
        }
        for (int k = 0; k < x.count(1); k++) {
            add(seen, x.deed(k, 0), x.deed(k, all));
            for (int what = 0; what < 5; what++) {
                add(seen, x.way(k, 0, what), x.way(k, all, what));
            }
        }
    }

    private static void learner(StringBuilder seen, TunerGame x) {
        seen.append("| learner ");
        for (int i = 0; i < x.count(3); i++) {
            add(seen, x.done(i), x.explained(i));
            for (int k = 0; k < x.count(1); k++) {
                add(seen, x.saved(i, k));
            }
        }
    }

    private static void add(StringBuilder seen, int... answers) {
        for (int answer : answers) {
            seen.append(answer).append(' ');
        }
    }
}
