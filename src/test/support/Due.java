import java.util.function.Consumer;
import java.util.function.Supplier;

/** What the tests share: telling answers that are not due, and bringing a text onto the tape. */
final class Due {
    private static int wrong = 0;
    private static int asked = 0;
    private static int sentences = 0;
    private static String sentence = "";
    private static int askedAtSentence = 0;

    private Due() {
    }

    /** What follows, up to the next one, tests these words of the document. */
    static void sentence(String words) {
        endSentence();
        sentences++;
        sentence = "'" + words + "': ";
        askedAtSentence = asked;
    }

    /** A sentence of which nothing was asked has no test. */
    private static void endSentence() {
        if (sentences > 0 && asked == askedAtSentence) {
            wrong++;
            System.out.println(sentence + "nothing was asked");
        }
    }

    static void is(String call, long got, long want) {
        asked++;
        if (got != want) {
            wrong++;
            System.out.println(sentence + call + " answered " + got + ", due is " + want);
        }
    }

    static void is(String call, boolean got, boolean want) {
        is(call, got ? 1 : 0, want ? 1 : 0);
    }

    static void end() {
        endSentence();
        String all = sentences == 0 ? "" : " of " + sentences + " sentences";
        System.out.println(wrong == 0 ? "all " + asked + " answers" + all + " are as due" : wrong + " answers are not as due");
        if (wrong != 0) {
            System.exit(1);
        }
    }

    /** Nothing happens: an object with these calls can't be told from one without them. */
    static void nothing(String calls, Supplier<TunerGame> maker, Consumer<TunerGame> refused) {
        TunerGame with = maker.get();
        refused.accept(with);
        String seen = Seen.of(with);
        String want = Seen.of(maker.get());
        asked++;
        if (!seen.equals(want)) {
            wrong++;
            System.out.println(sentence + "something happened by " + calls + ":\n  " + seen + "\n  " + want);
        }
    }

    /** The text's bytes come behind the tape, but for what no longer fits in whole twenties. */
    static int put(TunerGame x, String text) {
        int have = x.count(8);
        for (int at = 0; at < text.length(); at += 20) {
            int[] words = new int[5];
            for (int n = 0; n < 20; n++) {
                int b = at + n < text.length() ? text.charAt(at + n) & 255 : 32;
                words[n / 4] = words[n / 4] << 8 | b;
            }
            have = x.feed(words[0], words[1], words[2], words[3], words[4]);
        }
        int over = (20 - text.length() % 20) % 20;
        return have == TunerGame.NONE ? have : x.back(over);
    }

    static int read(TunerGame x, String text) {
        put(x, text);
        return x.read();
    }

    /** A text's FAULT and its place. */
    static void fault(TunerGame x, String text, int number, int place) {
        is("read() of " + text, read(x, text), number);
        is("place() of " + text, x.place(), place);
    }
}
