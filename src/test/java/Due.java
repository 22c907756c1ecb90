import java.nio.charset.StandardCharsets;

/** Counts the answers that are not as due, and ends a test by them. */
final class Due {
    private int wrong;

    void due(String call, long got, long want) {
        if (got != want) {
            wrong++;
            System.out.println(call + " answered " + got + ", due is " + want);
        }
    }

    void due(String call, boolean got, boolean want) {
        due(call, got ? 1 : 0, want ? 1 : 0);
    }

    void finish() {
        System.out.println(wrong == 0 ? "as due" : wrong + " answers are not as due");
        if (wrong != 0) {
            System.exit(1);
        }
    }

    /** Puts a text on the tape, in place of what is there. */
    static void tape(TreacleTank x, String text) {
        byte[] bytes = text.getBytes(StandardCharsets.ISO_8859_1);
        x.end(0);
        for (int from = 0; from < bytes.length; from += 20) {
            int[] four = new int[5];
            for (int n = 0; n < 20 && from + n < bytes.length; n++) {
                four[n / 4] |= (bytes[from + n] & 255) << (24 - n % 4 * 8);
            }
            x.feed(four[0], four[1], four[2], four[3], four[4]);
        }
        x.end(bytes.length);
    }

    static int story(TreacleTank x, String text) {
        tape(x, text);
        return x.story();
    }

    static int rule(TreacleTank x, String text) {
        tape(x, text);
        return x.rule();
    }

    /** The answer to a text with a fault. */
    static int fault(int place, int why) {
        return -2 - (1 + 8 * place + why);
    }
}
