import java.nio.charset.StandardCharsets;

/** What the tests share: to compare an answer with the one that is due, and to tell a text. */
final class Due {
    private static int wrong = 0;
    private static int asked = 0;

    private Due() {
    }

    static void due(String call, long got, long want) {
        asked++;
        if (got != want) {
            wrong++;
            if (wrong <= 40) {
                System.out.println(call + " answered " + got + ", due is " + want);
            }
        }
    }

    static void due(String call, boolean got, boolean want) {
        due(call, got ? 1 : 0, want ? 1 : 0);
    }

    /** Puts the bytes of a text on the tape, which is empty, and cuts it behind them. */
    static void feed(SwallowsAir x, String text) {
        byte[] bytes = text.getBytes(StandardCharsets.ISO_8859_1);
        int[] v = new int[5];
        for (int at = 0; at < bytes.length; at += 20) {
            for (int i = 0; i < 5; i++) {
                v[i] = 0;
                for (int j = 0; j < 4; j++) {
                    int p = at + 4 * i + j;
                    v[i] = v[i] << 8 | (p < bytes.length ? bytes[p] & 255 : 32);
                }
            }
            x.feed(v[0], v[1], v[2], v[3], v[4]);
        }
        x.end(bytes.length);
    }

    static int tell(SwallowsAir x, int k, String text) {
        feed(x, text);
        return x.text(k);
    }

    static void lines(SwallowsAir x, int k, String text, int lines) {
        due("text(" + k + ") of '" + text + "'", tell(x, k, text), lines);
        due("fault(0) of '" + text + "'", x.fault(0), 0);
        due("fault(1) of '" + text + "'", x.fault(1), -1);
    }

    static void faulty(SwallowsAir x, int k, String text, int fault, int place) {
        due("text(" + k + ") of '" + text + "'", tell(x, k, text), -1);
        due("fault(0) of '" + text + "'", x.fault(0), fault);
        due("fault(1) of '" + text + "'", x.fault(1), place);
    }

    static void close(String name) {
        System.out.println(name + ": " + asked + " answers, " + wrong + " not as due");
        if (wrong != 0 || asked == 0) {
            System.exit(1);
        }
    }
}
