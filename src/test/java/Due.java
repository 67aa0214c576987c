/** Counts answers that are not the ones that are due, and ends the test with exit code 1 if there are any. */
final class Due {
    private static int wrong = 0;
    private static String sentence = "";

    private Due() {
    }

    /** The document's sentence that the answers from here on are due by; it stands in what is printed. */
    static void by(String text) {
        sentence = "[" + text + "] ";
    }

    static void is(String call, long got, long want) {
        if (got != want) {
            wrong++;
            if (wrong <= 50) {
                System.out.println(sentence + call + " answered " + got + ", due is " + want);
            }
        }
    }

    static void is(String call, boolean got, boolean want) {
        is(call, got ? 1L : 0L, want ? 1L : 0L);
    }

    /** Feeds a text by as many calls as it needs, leaves no byte behind it, and makes it THE TEXT. */
    static boolean text(Mill x, String text) {
        x.end(0);
        feed(x, text);
        return x.text();
    }

    /** Feeds a text behind an empty tape, and leaves no byte behind it. */
    static void feed(Mill x, String text) {
        int[] words = new int[25];
        for (int i = 0; i < text.length(); i++) {
            words[i / 4] |= (text.charAt(i) & 255) << (24 - 8 * (i % 4));
        }
        for (int i = 0; i < text.length(); i += 20) {
            int w = i / 4;
            is("feed", x.feed(words[w], words[w + 1], words[w + 2], words[w + 3], words[w + 4]), i + 20);
        }
        is("end", x.end(text.length()), text.length());
    }

    static void finish() {
        System.out.println(wrong == 0 ? "all answers are as due" : wrong + " answers are not as due");
        if (wrong != 0) {
            System.exit(1);
        }
    }
}
