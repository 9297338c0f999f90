import java.util.ArrayList;
import java.util.List;

/**
 * Two objects made by the same calls: one is asked for what must change nothing, and then both must answer alike
 * whatever is asked, taken back, gone back to, run, seated or read from the tape.
 */
final class Twin {
    /** An object on which not more than 150 calls were made: its portrait takes some 350 of the 512. */
    interface Made {
        WrongHole make();
    }

    interface Call {
        int on(WrongHole x);
    }

    private final WrongHole x;
    private final List<String> answers = new ArrayList<>();

    private Twin(WrongHole x) {
        this.x = x;
    }

    static void nothingHappens(Due due, String call, int want, Made made, Call refused) {
        alike(due, call, want, made, refused, x -> 0);
    }

    /** Behind a call one object must be as the other one is behind another call. */
    static void alike(Due due, String call, int want, Made made, Call refused, Call instead) {
        WrongHole plain = made.make();
        WrongHole asked = made.make();
        instead.on(plain);
        due.is(call, want, refused.on(asked));
        due.same(call + " and then", portrait(plain), portrait(asked));
    }

    /** All that can be seen of an object, which is changed by it. */
    static List<String> portrait(WrongHole x) {
        Twin t = new Twin(x);
        t.askCounts();
        t.askRows();
        t.askWays();
        t.takeAllBack();
        t.runAll();
        t.goBackToAll();
        t.emptySeats();
        t.readTape();
        return t.answers;
    }

    private int tell(String call, int answer) {
        answers.add(call + " answers " + answer);
        return answer;
    }

    private void askCounts() {
        for (int what = 0; what < 12; what++) {
            tell("count(" + what + ")", x.count(what));
        }
    }

    private void askRows() {
        int buttons = x.count(0);
        for (int b = 0; b < buttons; b++) {
            for (int what = 0; what < 8; what++) {
                tell("button(" + b + ", " + what + ")", x.button(b, what));
            }
            tell("spare", x.spare(b, 0));
        }
        int holes = x.count(1);
        for (int h = 0; h < holes; h++) {
            for (int what = 0; what < 3; what++) {
                tell("hole(" + h + ", " + what + ")", x.hole(h, what));
            }
        }
        for (int what = 0; what < 6; what++) {
            tell("row(" + what + ")", x.row(what));
        }
        tell("shown(0)", x.shown(0));
        tell("shown(9999)", x.shown(9999));
        tell("may", x.may());
        tell("goes", x.goes(1));
    }

    private void askWays() {
        tell("fewest(0)", x.fewest(0));
        tell("fewest(1)", x.fewest(1));
        tell("soonest", x.soonest());
        tell("step(0, 1)", x.step(0, 1));
        tell("child(2, 3, 0)", x.child(2, 3, 0));
        tell("moves(10)", x.moves(10));
        for (int what = 0; what < 3; what++) {
            tell("floor(9, " + what + ")", x.floor(9, what));
            tell("ways(" + what + ")", x.ways(what));
            tell("dressed(3, 7, " + what + ")", x.dressed(3, 7, what));
        }
    }

    private void askPlaces() {
        tell("clock", x.count(4));
        int buttons = x.count(0);
        for (int b = 0; b < buttons; b++) {
            tell("button(" + b + ", 0)", x.button(b, 0));
        }
    }

    private void takeAllBack() {
        for (int i = 0; i < 21 && tell("takeBack", x.takeBack()) >= 0; i++) {
            askPlaces();
        }
    }

    private void runAll() {
        for (int r = 0; r < 7; r++) {
            tell("run(" + r + ", 2)", x.run(r, 2));
            askPlaces();
        }
    }

    private void goBackToAll() {
        for (int k = 0; k < 4; k++) {
            tell("back(" + k + ")", x.back(k));
            askPlaces();
            tell("creases", x.count(8));
            tell("x", x.count(10));
            tell("moves(10)", x.moves(10));
        }
    }

    private void emptySeats() {
        for (int s = 0; s < 10; s++) {
            tell("seat(" + s + ", NONE)", x.seat(s, -1));
        }
    }

    private void readTape() {
        tell("lift", x.lift());
        tell("buttons", x.count(0));
        tell("worth", x.button(0, 5));
        tell("bytes", x.count(11));
        tell("rule", x.rule());
    }
}
