import java.nio.charset.StandardCharsets;

/** What the tests share: to compare an answer with the one that is due, and to tell a text. */
final class Due {
    private static int wrong = 0;
    private static int asked = 0;
    private static int sentences = 0;
    private static int askedBefore = 0;
    private static String where = "";

    private Due() {
    }

    /** What is asked from here on belongs to this sentence of the document. */
    static void sentence(String place, String words) {
        closeSentence();
        where = place + " (" + words + "): ";
        askedBefore = asked;
        sentences++;
    }

    private static void closeSentence() {
        if (!where.isEmpty() && asked == askedBefore) {
            wrong++;
            System.out.println(where + "nothing was asked for it");
        }
    }

    static void due(String call, long got, long want) {
        asked++;
        if (got != want) {
            wrong++;
            if (wrong <= 40) {
                System.out.println(where + call + " answered " + got + ", due is " + want);
            }
        }
    }

    static void due(String call, boolean got, boolean want) {
        due(call, got ? 1 : 0, want ? 1 : 0);
    }

    /** What was seen before a call and behind it, where the call has to leave all as it was. */
    static void same(String call, String behind, String before) {
        asked++;
        if (!behind.equals(before)) {
            wrong++;
            System.out.println(where + call + " left\n  " + behind + "\nbefore it was\n  " + before);
        }
    }

    /** Puts the bytes of a text on the tape, which is empty, and cuts it behind them. */
    static void feed(SwallowsAir x, String text) {
        byte[] bytes = text.getBytes(StandardCharsets.ISO_8859_1);
        int[] v = new int[5];
        for (int at = 0; at < bytes.length; at += 20) {
            for (int i = 0; i < 5; i++) {
                v[i] = 0;
                for (int j = 0; j < 4; j++) {
                    int p = at + 4 * i + j;
                    v[i] = v[i] << 8 | (p < bytes.length ? bytes[p] & 255 : 32);
                }
            }
            x.feed(v[0], v[1], v[2], v[3], v[4]);
        }
        x.end(bytes.length);
    }

    static int tell(SwallowsAir x, int k, String text) {
        feed(x, text);
        return x.text(k);
    }

    static void lines(SwallowsAir x, int k, String text, int lines) {
        due("text(" + k + ") of '" + text + "'", tell(x, k, text), lines);
        due("fault(0) of '" + text + "'", x.fault(0), 0);
        due("fault(1) of '" + text + "'", x.fault(1), -1);
    }

    static void faulty(SwallowsAir x, int k, String text, int fault, int place) {
        due("text(" + k + ") of '" + text + "'", tell(x, k, text), -1);
        due("fault(0) of '" + text + "'", x.fault(0), fault);
        due("fault(1) of '" + text + "'", x.fault(1), place);
    }

    static void close(String name) {
        closeSentence();
        System.out.println(name + ": " + (sentences == 0 ? "" : sentences + " sentences, ") + asked + " answers, "
                + wrong + " not as due");
        if (wrong != 0 || asked == 0) {
            System.exit(1);
        }
    }
}
