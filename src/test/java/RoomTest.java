import com.sun.management.ThreadMXBean;
import java.lang.management.ManagementFactory;
import java.nio.charset.StandardCharsets;
import java.util.ArrayList;
import java.util.List;

/** "An object is used for at most 512 calls after it has been made": all of them are answered, in little room. */
public final class RoomTest {
    private static final Due DUE = new Due();
    private static final int CALLS = 512;
    /** The room is 7.3 million elements in all, of a byte at least: less than half of it is to be used. */
    private static final long MOST_BYTES = 3_000_000;
    private static final List<int[]> SIZES = sizes();

    private interface Turn {
        void take(WrongHole x, int call);
    }

    public static void main(String[] args) {
        // What the machine itself makes at first use is not the class's.
        roomOf(RoomTest::askAll);
        lastIsAsFirst();
        keepsTo("all that is asked, in turn", RoomTest::askAll);
        keepsTo("a faulty lift each time", RoomTest::liftFaulty);
        keepsTo("a lift each second time", RoomTest::liftShort);
        keepsTo("a rule each second time", RoomTest::ruleShort);
        keepsTo("ways in rows that grow", RoomTest::grow);
        keepsTo("images made and gone back to", RoomTest::goBack);
        DUE.close();
    }

    private static void keepsTo(String name, Turn turn) {
        long bytes = roomOf(turn);
        DUE.is(name + " took " + bytes + " bytes", 1, bytes < MOST_BYTES ? 1 : 0);
    }

    private static long roomOf(Turn turn) {
        ThreadMXBean threads = (ThreadMXBean) ManagementFactory.getThreadMXBean();
        long self = Thread.currentThread().getId();
        long before = threads.getThreadAllocatedBytes(self);
        WrongHole x = new WrongHole();
        for (int call = 0; call < CALLS; call++) {
            turn.take(x, call);
        }
        return threads.getThreadAllocatedBytes(self) - before;
    }

    private static void feed(WrongHole x, String twenty) {
        int[] f = Due.fives(twenty.getBytes(StandardCharsets.ISO_8859_1))[0];
        x.feed(f[0], f[1], f[2], f[3], f[4]);
    }

    private static void askAll(WrongHole x, int call) {
        if (call == 0) {
            feed(x, "row 8 8;beside 7    ");
        } else if (call == 1) {
            x.lift();
        } else if (call == 2) {
            feed(x, "act done * 9 + hole ");
        } else if (call == 3) {
            x.rule();
        } else {
            askOne(x, call % 20, call);
        }
    }

    private static void askOne(WrongHole x, int which, int call) {
        switch (which) {
            case 0 -> x.floor(call % 301, 0);
            case 1 -> x.soonest();
            case 2 -> x.run(0, 60);
            case 3 -> x.unfasten(call % 8);
            case 4 -> x.fasten(call % 8, call % 7);
            case 5 -> x.dressed(20, 60, 0);
            case 6 -> x.child(1, 9, 0);
            case 7 -> x.step(call % 9, 1);
            case 8 -> x.ways(1);
            case 9 -> x.crease(5, call % 8, 3);
            case 10 -> x.seat(call % 10, call % 7);
            case 11 -> x.moves(10);
            case 12 -> x.may();
            case 13 -> x.act(2, 1);
            case 14 -> x.fewest(0);
            case 15 -> x.goes(2);
            case 16 -> x.image(call % 4);
            case 17 -> x.back(call % 4);
            case 18 -> x.takeBack();
            default -> x.waits(1);
        }
    }

    private static void liftFaulty(WrongHole x, int call) {
        if (call == 0) {
            feed(x, "row 8 8;in 0 0;in 1 ");
        } else {
            x.lift();
        }
    }

    private static void liftShort(WrongHole x, int call) {
        if (call % 2 == 0) {
            feed(x, "row 8 8;in 0 7      ");
        } else {
            x.lift();
        }
    }

    private static void ruleShort(WrongHole x, int call) {
        if (call % 2 == 0) {
            feed(x, call < 400 ? "act 1 if [ 1 = 1 or " : "act 1 + 2 * 3 - open");
        } else {
            x.rule();
        }
    }

    /** Each lift has as many rows as the one ahead of it or more. */
    private static void grow(WrongHole x, int call) {
        int[] size = SIZES.get(call / 8);
        if (call % 4 == 0) {
            feed(x, "row " + size[0] + " " + size[1] + ";never 0      ");
        } else if (call % 4 == 1) {
            x.lift();
        } else if (call % 4 == 2) {
            x.soonest();
        } else {
            x.floor(300, 0);
        }
    }

    /** Buttons and holes of all lifts, by how many rows these have. */
    private static List<int[]> sizes() {
        List<int[]> all = new ArrayList<>();
        for (int i = 0; i < 64; i++) {
            all.add(new int[] {1 + i / 8, 1 + i % 8});
        }
        all.sort((a, b) -> rows(a[0], a[1]) - rows(b[0], b[1]));
        return all;
    }

    private static int rows(int buttons, int holes) {
        return buttons == 0 || holes == 0 ? 1 : rows(buttons - 1, holes) + rows(buttons, holes - 1);
    }

    private static void goBack(WrongHole x, int call) {
        if (call % 2 == 0) {
            x.image(call / 2 % 4);
        } else {
            x.back(call / 2 % 4);
        }
    }

    private static void lastIsAsFirst() {
        WrongHole x = new WrongHole();
        feed(x, "row 4 4;in 0 1;in 1 ");
        feed(x, "2;in 2 3;undo 1 3   ");
        x.lift();
        int first = x.soonest();
        DUE.is("soonest", 1 + 3 + 1 + 4 * 2, first);
        for (int call = 4; call < CALLS - 2; call++) {
            DUE.is("call " + (call + 1) + ": waits(1)", call - 3, x.waits(1));
        }
        DUE.is("call 511: soonest()", first, x.soonest());
        DUE.is("call 512: count(5)", 20, x.count(5));
    }
}
