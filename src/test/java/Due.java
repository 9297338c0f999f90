import java.nio.charset.StandardCharsets;

/** Counts answers that are due and prints those that are not given. */
final class Due {
    private int passed;
    private int failed;

    void is(String call, int want, int got) {
        if (want == got) {
            passed++;
            return;
        }
        failed++;
        System.out.println(call + " answered " + got + ", due is " + want);
    }

    /** Ends the test. */
    void close() {
        System.out.println(passed + " passed, " + failed + " failed");
        if (failed > 0 || passed == 0) {
            System.exit(1);
        }
    }

    /** The text as numbers of four bytes, in fives. */
    static int[][] fives(byte[] bytes) {
        int[][] all = new int[(bytes.length + 19) / 20][5];
        for (int i = 0; i < bytes.length; i++) {
            all[i / 20][i % 20 / 4] |= (bytes[i] & 255) << 24 - 8 * (i % 4);
        }
        return all;
    }

    /** A tape with this text alone. */
    static void tell(WrongHole x, String text) {
        byte[] bytes = text.getBytes(StandardCharsets.ISO_8859_1);
        x.end(0);
        for (int[] f : fives(bytes)) {
            x.feed(f[0], f[1], f[2], f[3], f[4]);
        }
        x.end(bytes.length);
    }

    static int lift(WrongHole x, String text) {
        tell(x, text);
        return x.lift();
    }

    static int rule(WrongHole x, String text) {
        tell(x, text);
        return x.rule();
    }

    static WrongHole worn(String text) {
        WrongHole x = new WrongHole();
        if (lift(x, text) < 0) {
            throw new IllegalArgumentException(text);
        }
        return x;
    }

    static int fault(int place, int kind) {
        return -2 - (1 + 8 * place + kind);
    }
}
