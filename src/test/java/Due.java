import java.nio.charset.StandardCharsets;
import java.util.List;

/** Counts answers that are due and prints those that are not given. */
final class Due {
    private int passed;
    private int failed;

    void is(String call, int want, int got) {
        if (want == got) {
            passed++;
            return;
        }
        failed++;
        System.out.println(call + " answered " + got + ", due is " + want);
    }

    /** Rows of answers, of which the first that differs is told. */
    void same(String call, List<String> want, List<String> got) {
        for (int i = 0; i < want.size() && i < got.size(); i++) {
            if (!want.get(i).equals(got.get(i))) {
                failed++;
                System.out.println(call + ": " + got.get(i) + ", due is " + want.get(i));
                return;
            }
        }
        is(call + ": how many answers", want.size(), got.size());
    }

    /** Ends the test. */
    void close() {
        System.out.println(passed + " passed, " + failed + " failed");
        if (failed > 0 || passed == 0) {
            System.exit(1);
        }
    }

    /** The text as numbers of four bytes, in fives. */
    static int[][] fives(byte[] bytes) {
        int[][] all = new int[(bytes.length + 19) / 20][5];
        for (int i = 0; i < bytes.length; i++) {
            all[i / 20][i % 20 / 4] |= (bytes[i] & 255) << 24 - 8 * (i % 4);
        }
        return all;
    }

    /** A tape with this text alone. */
    static void tell(WrongHole x, String text) {
        byte[] bytes = text.getBytes(StandardCharsets.ISO_8859_1);
        x.end(0);
        for (int[] f : fives(bytes)) {
            x.feed(f[0], f[1], f[2], f[3], f[4]);
        }
        x.end(bytes.length);
    }

    static int lift(WrongHole x, String text) {
        tell(x, text);
        return x.lift();
    }

    static int rule(WrongHole x, String text) {
        tell(x, text);
        return x.rule();
    }

    static WrongHole worn(String text) {
        WrongHole x = new WrongHole();
        if (lift(x, text) < 0) {
            throw new IllegalArgumentException(text);
        }
        return x;
    }

    /** Worn, and the clock at a second, by waits alone. */
    static WrongHole wornAt(int second, String text) {
        WrongHole x = worn(text);
        for (int left = second; left > 0; left -= 999) {
            x.waits(Math.min(left, 999));
        }
        return x;
    }

    static int fault(int place, int kind) {
        return -2 - (1 + 8 * place + kind);
    }

    /** A ^ stands ahead of the place where the lift's fault is due. */
    void liftFault(int kind, String marked) {
        is("lift of " + marked, fault(marked.indexOf('^'), kind), lift(new WrongHole(), marked.replace("^", "")));
    }

    void liftIs(int buttons, String text) {
        is("lift of " + text, buttons, lift(new WrongHole(), text));
    }

    /** A ^ stands ahead of the place where the rule's fault is due. */
    void ruleFault(int kind, String marked) {
        is("rule of " + marked, fault(marked.indexOf('^'), kind), rule(new WrongHole(), marked.replace("^", "")));
    }

    void ruleIsTaken(String text) {
        is("rule of " + text, 0, rule(new WrongHole(), text));
    }
}
