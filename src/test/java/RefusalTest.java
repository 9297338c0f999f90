/**
 * Behind a refused call all is as it was, wherever the document says so: "and nothing happens", "and none comes",
 * "and all stays". Two objects of one making must answer alike to all that can be asked behind it.
 */
public final class RefusalTest {
    private static final Due DUE = new Due();
    private static final int MIN = Integer.MIN_VALUE;
    private static final int MAX = Integer.MAX_VALUE;
    private static final String LIFT =
            "row 4 5;in 0 1;in 1 2;in 2 4;gone 3;worth 3 9;beside 2;never 2;eye 0 3 7;sewn 3";

    public static void main(String[] args) {
        feed();
        end();
        liftOfFaults();
        ruleOfFaults();
        seventhRule();
        unfasten();
        fasten();
        waits();
        takeBack();
        run();
        crease();
        seat();
        seed();
        image();
        back();
        asked();
        withoutLift();
        DUE.close();
    }

    /** With something of all: a row, a clock, a past, rules, creases, seats, x, images and a tape. */
    private static WrongHole rich() {
        WrongHole x = Due.worn(LIFT);
        Due.rule(x, "act 9 if done=1;act 5-button");
        Due.rule(x, "act right*done");
        x.waits(3);
        x.crease(4, 0, 1);
        x.seat(0, 1);
        x.seat(1, 2);
        x.seat(4, 0);
        x.seed(12345);
        x.image(1);
        x.unfasten(1);
        x.crease(3, 0, 4);
        x.fasten(1, 2);
        x.waits(20);
        x.unfasten(0);
        x.image(3);
        Due.tell(x, "row 2 2;worth 0 42");
        return x;
    }

    private static WrongHole richAt(int second) {
        WrongHole x = rich();
        for (int left = second - x.count(4); left > 0; left -= 999) {
            x.waits(Math.min(left, 999));
        }
        return x;
    }

    private static WrongHole bare() {
        WrongHole x = new WrongHole();
        Due.rule(x, "act 1");
        x.seat(2, 5);
        x.seed(6);
        x.image(0);
        Due.tell(x, "row 2 2;worth 0 42");
        return x;
    }

    private static void refused(String call, int want, Twin.Call how) {
        Twin.nothingHappens(DUE, call, want, RefusalTest::rich, how);
    }

    private static void feed() {
        Twin.Made full = () -> {
            WrongHole x = rich();
            for (int i = 0; i < 18; i++) {
                x.feed(0x20202020, 0x20202020, 0x20202020, 0x20202020, 0x20202020);
            }
            DUE.is("bytes", 378, x.count(11));
            x.feed(0x20202020, 0x20202020, 0x20202020, 0x20202020, 0x20202020);
            DUE.is("bytes", 398, x.count(11));
            return x;
        };
        Twin.nothingHappens(DUE, "feed", -1, full, x -> x.feed(-1, -1, -1, -1, -1));
    }

    private static void end() {
        for (int wrong : new int[] {-1, 19, 401, MIN, MAX}) {
            refused("end(" + wrong + ")", -1, x -> x.end(wrong));
        }
        refused("end of all its bytes", 18, x -> x.end(18));
    }

    /** Promise 4: all stays, and the tape with it. */
    private static void liftOfFaults() {
        for (String text : new String[] {"", "row 9 9", "row 2 2;nix", "row 2 2;row 2 2", "row 2 2;in 0 0;gone 0",
            "act 1", "row 8 8;never 7;worth 0 99;worth 0 100"}) {
            Twin.Made told = () -> {
                WrongHole x = rich();
                Due.tell(x, text);
                return x;
            };
            DUE.is("it is a fault", 1, told.make().lift() < -2 ? 1 : 0);
            Twin.nothingHappens(DUE, "lift of " + text, told.make().lift(), told, WrongHole::lift);
        }
    }

    /** Promise 5: the tape is empty then, and nothing else has happened. */
    private static void ruleOfFaults() {
        for (String text : new String[] {"", "act", "act 1;", "act 1 if 1=1]", "row 2 2", "act 123456"}) {
            Twin.Made told = () -> {
                WrongHole x = rich();
                Due.tell(x, text);
                return x;
            };
            DUE.is("it is a fault", 1, told.make().rule() < -2 ? 1 : 0);
            Twin.alike(DUE, "rule of " + text, told.make().rule(), told, WrongHole::rule, x -> x.end(0));
        }
    }

    private static void seventhRule() {
        for (String text : new String[] {"act 1", "act", "", "row 1 1;worth 0 8"}) {
            Twin.Made six = () -> {
                WrongHole x = rich();
                for (int i = 0; i < 4; i++) {
                    Due.rule(x, "act " + i);
                }
                Due.tell(x, text);
                return x;
            };
            DUE.is("six rules", 6, six.make().count(2));
            Twin.nothingHappens(DUE, "rule of " + text, -1, six, WrongHole::rule);
        }
    }

    private static void unfasten() {
        for (int wrong : new int[] {-1, 4, MIN, MAX}) {
            refused("no button " + wrong, -1, x -> x.unfasten(wrong));
        }
        refused("open", -1, x -> x.unfasten(0));
        refused("gone", -1, x -> x.unfasten(3));
        refused("never", -1, x -> x.unfasten(2));
        Twin.Made narrow = () -> {
            WrongHole x = rich();
            Due.lift(x, "row 3 3;in 0 0;in 1 1;in 2 2;beside 1");
            x.unfasten(0);
            return x;
        };
        Twin.nothingHappens(DUE, "beside", -1, narrow, x -> x.unfasten(1));
        Twin.nothingHappens(DUE, "above 9999", -1, () -> richAt(9999), x -> x.unfasten(1));
    }

    private static void fasten() {
        int[][] wrong = {{-1, 0}, {4, 0}, {MIN, 0}, {MAX, 0}, {0, -1}, {0, 5}, {0, MIN}, {0, MAX}, {1, 3}, {3, 3},
            {0, 2}, {0, 3}, {0, 4}};
        for (int[] w : wrong) {
            refused("fasten(" + w[0] + ", " + w[1] + ")", -1, x -> x.fasten(w[0], w[1]));
        }
        Twin.nothingHappens(DUE, "above 9999", -1, () -> richAt(9998), x -> x.fasten(0, 0));
        Twin.Made unlawful = () -> {
            WrongHole x = rich();
            Due.lift(x, "row 3 3;beside 1");
            return x;
        };
        Twin.nothingHappens(DUE, "beside", -1, unlawful, x -> x.fasten(0, 0));
    }

    private static void waits() {
        for (int wrong : new int[] {0, -1, 1000, MIN, MAX}) {
            refused("waits(" + wrong + ")", -1, x -> x.waits(wrong));
        }
        Twin.nothingHappens(DUE, "above 9999", -1, () -> richAt(9999), x -> x.waits(1));
        Twin.nothingHappens(DUE, "above 9999", -1, () -> richAt(9001), x -> x.waits(999));
    }

    private static void takeBack() {
        Twin.Made none = () -> {
            WrongHole x = rich();
            x.back(3);
            return x;
        };
        Twin.nothingHappens(DUE, "takeBack", -1, none, WrongHole::takeBack);
        Twin.Made all = () -> {
            WrongHole x = rich();
            for (int i = 0; i < 5; i++) {
                x.takeBack();
            }
            return x;
        };
        Twin.nothingHappens(DUE, "takeBack", -1, all, WrongHole::takeBack);
    }

    private static void run() {
        int[][] wrong = {{-1, 1}, {2, 1}, {6, 1}, {MIN, 1}, {MAX, 1}, {0, 0}, {0, -1}, {0, 61}, {0, MIN}, {0, MAX}};
        for (int[] w : wrong) {
            refused("run(" + w[0] + ", " + w[1] + ")", -1, x -> x.run(w[0], w[1]));
        }
        // Without an act nothing happens either: 0 can be done into 0, but the rule is over at the clock.
        Twin.nothingHappens(DUE, "no act", 0, () -> richAt(9999), x -> x.run(1, 60));
        Twin.Made never = () -> {
            WrongHole x = rich();
            Due.rule(x, "act 0");
            return x;
        };
        Twin.nothingHappens(DUE, "no act", 0, never, x -> x.run(2, 60));
    }

    private static void crease() {
        int[][] wrong = {{-2, 0, 0}, {6, 0, 0}, {0, 4, 0}, {1, -1, 0}, {0, 0, 1}, {1, 0, 1}, {2, 1, 0}, {3, 1, 0},
            {2, 0, 5}, {3, 0, -1}, {4, 4, 0}, {4, 0, 5}, {5, -1, 0}, {5, 0, -1}, {MIN, MIN, MIN}, {MAX, MAX, MAX}};
        for (int[] w : wrong) {
            refused("crease(" + w[0] + ", " + w[1] + ", " + w[2] + ")", -2, x -> x.crease(w[0], w[1], w[2]));
        }
        Twin.Made ten = () -> {
            WrongHole x = rich();
            for (int i = 0; i < 8; i++) {
                x.crease(5, 0, 0);
            }
            return x;
        };
        Twin.nothingHappens(DUE, "an eleventh", -2, ten, x -> x.crease(1, 2, 0));
    }

    private static void seat() {
        int[][] wrong = {{-1, 0}, {10, 0}, {-1, -1}, {10, -1}, {0, -2}, {0, 10}, {MIN, 0}, {MAX, 0}, {0, MIN},
            {0, MAX}};
        for (int[] w : wrong) {
            refused("seat(" + w[0] + ", " + w[1] + ")", -2, x -> x.seat(w[0], w[1]));
        }
    }

    private static void seed() {
        refused("seed(-1)", -1, x -> x.seed(-1));
        refused("seed(MIN)", -1, x -> x.seed(MIN));
    }

    private static void image() {
        for (int wrong : new int[] {-1, 4, MIN, MAX}) {
            refused("image(" + wrong + ")", -1, x -> x.image(wrong));
        }
    }

    private static void back() {
        for (int wrong : new int[] {0, 2, -1, 4, MIN, MAX}) {
            refused("back(" + wrong + ")", -1, x -> x.back(wrong));
        }
    }

    /** What is asked wrongly changes as little as what is asked well. */
    private static void asked() {
        refused("button", -2, x -> x.button(4, 0));
        refused("hole", -2, x -> x.hole(5, 0));
        refused("row", -1, x -> x.row(6));
        refused("shown", -1, x -> x.shown(10000));
        refused("act", -1, x -> x.act(99, 0));
        refused("fewest", -1, x -> x.fewest(2));
        refused("step", -1, x -> x.step(-1, 0));
        refused("floor", -1, x -> x.floor(301, 0));
        refused("goes", -1, x -> x.goes(9));
        refused("child", -1, x -> x.child(2, 1, 0));
        refused("spare", -1, x -> x.spare(0, 0));
        refused("ways", -1, x -> x.ways(3));
        refused("moves", -1, x -> x.moves(11));
        refused("dressed", -1, x -> x.dressed(21, 1, 0));
        refused("count", -1, x -> x.count(12));
    }

    private static void bare(String call, int want, Twin.Call how) {
        Twin.nothingHappens(DUE, call + " without a lift", want, RefusalTest::bare, how);
    }

    private static void withoutLift() {
        bare("button", -2, x -> x.button(0, 0));
        bare("hole", -2, x -> x.hole(0, 0));
        bare("row", -1, x -> x.row(0));
        bare("shown", -1, x -> x.shown(0));
        bare("unfasten", -1, x -> x.unfasten(0));
        bare("fasten", -1, x -> x.fasten(0, 0));
        bare("waits", -1, x -> x.waits(1));
        bare("takeBack", -1, WrongHole::takeBack);
        bare("run", -1, x -> x.run(0, 1));
        bare("may", -1, WrongHole::may);
        bare("act", -1, x -> x.act(0, 0));
        bare("fewest", -1, x -> x.fewest(0));
        bare("soonest", -1, WrongHole::soonest);
        bare("step", -1, x -> x.step(0, 0));
        bare("floor", -1, x -> x.floor(0, 0));
        bare("goes", -1, x -> x.goes(1));
        bare("child", -1, x -> x.child(1, 1, 0));
        bare("spare", -1, x -> x.spare(0, 0));
        bare("crease", -2, x -> x.crease(0, 0, 0));
        bare("crease NONE", 0, x -> x.crease(-1, 0, 0));
        bare("ways", -1, x -> x.ways(0));
        bare("dressed", -1, x -> x.dressed(1, 1, 0));
        bare("back", -1, x -> x.back(1));
    }
}
