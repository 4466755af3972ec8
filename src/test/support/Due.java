/** What the tests share: telling answers that are not due, and bringing a text onto the tape. */
final class Due {
    private static int wrong = 0;
    private static int asked = 0;

    private Due() {
    }

    static void is(String call, long got, long want) {
        asked++;
        if (got != want) {
            wrong++;
            System.out.println(call + " answered " + got + ", due is " + want);
        }
    }

    static void is(String call, boolean got, boolean want) {
        is(call, got ? 1 : 0, want ? 1 : 0);
    }

    static void end() {
        System.out.println(wrong == 0 ? "all " + asked + " answers are as due" : wrong + " answers are not as due");
        if (wrong != 0) {
            System.exit(1);
        }
    }

    /** The text's bytes come behind the tape, but for what no longer fits in whole twenties. */
    static int put(TunerGame x, String text) {
        int have = x.count(8);
        for (int at = 0; at < text.length(); at += 20) {
            int[] words = new int[5];
            for (int n = 0; n < 20; n++) {
                int b = at + n < text.length() ? text.charAt(at + n) & 255 : 32;
                words[n / 4] = words[n / 4] << 8 | b;
            }
            have = x.feed(words[0], words[1], words[2], words[3], words[4]);
        }
        int over = (20 - text.length() % 20) % 20;
        return have == TunerGame.NONE ? have : x.back(over);
    }

    static int read(TunerGame x, String text) {
        put(x, text);
        return x.read();
    }

    /** A text's FAULT and its place. */
    static void fault(TunerGame x, String text, int number, int place) {
        is("read() of " + text, read(x, text), number);
        is("place() of " + text, x.place(), place);
    }
}
