/** Promises 24 to 32: creases, seats, draws, counts and images. */
public final class OtherTest {
    private static final Due DUE = new Due();

    public static void main(String[] args) {
        crease();
        ways();
        waysBySorts();
        seat();
        moves();
        seed();
        dressed();
        dressedByLaws();
        count();
        images();
        imageWithoutLift();
        strangeArguments();
        DUE.close();
    }

    private static void crease() {
        WrongHole x = Due.worn("row 3 2");
        DUE.is("was in", 1, x.crease(0, 2, 0));
        DUE.is("was open", 2, x.crease(1, 0, 0));
        DUE.is("had one", 3, x.crease(2, 0, 1));
        DUE.is("had none", 4, x.crease(3, 0, 0));
        DUE.is("was in a hole", 5, x.crease(4, 2, 1));
        DUE.is("was not", 6, x.crease(5, 1, 1));
        int[][] wrong = {{-2, 0, 0}, {6, 0, 0}, {0, 3, 0}, {0, -1, 0}, {0, 0, 1}, {1, 0, 1}, {2, 1, 0}, {3, 1, 0},
            {2, 0, 2}, {3, 0, -1}, {4, 3, 0}, {4, 0, 2}, {5, -1, 0}, {5, 0, -1}};
        for (int[] w : wrong) {
            DUE.is("crease(" + w[0] + ", " + w[1] + ", " + w[2] + ")", -2, x.crease(w[0], w[1], w[2]));
        }
        DUE.is("creases", 6, x.count(8));
        for (int i = 7; i <= 10; i++) {
            DUE.is("crease", i, x.crease(0, 2, 0));
        }
        DUE.is("an eleventh", -2, x.crease(0, 2, 0));
        DUE.is("creases", 10, x.count(8));
        DUE.is("none then", 0, x.crease(-1, 0, 0));
        DUE.is("creases", 0, x.count(8));
        DUE.is("a first", 1, x.crease(0, 2, 0));
    }

    private static void waysAre(WrongHole x, int many, int all, int none) {
        DUE.is("ways", many, x.ways(0));
        DUE.is("in all", all, x.ways(1));
        DUE.is("in none", none, x.ways(2));
    }

    private static void ways() {
        WrongHole x = Due.worn("row 3 3");
        // 1, 9, 9 and 1 with 0 to 3 in.
        waysAre(x, 20, 0, 0);
        DUE.is("what 3", -1, x.ways(3));
        DUE.is("what -1", -1, x.ways(-1));
        x.crease(0, 1, 0);
        // 1 alone in one of 3; 0 and 1 or 1 and 2 in two of 3; all.
        waysAre(x, 10, 2, 0);
        x.crease(2, 0, 0);
        // 1 in 0 alone; 0, 1 in 0 and 1 or 2; 1, 2 likewise; all.
        waysAre(x, 6, 2, 0);
        x.crease(1, 2, 0);
        waysAre(x, 3, 2, 4);
        x.crease(5, 1, 0);
        waysAre(x, 2, 3, 4);
        x.crease(3, 0, 2);
        waysAre(x, 1, 3, 4);
        x.crease(4, 0, 0);
        waysAre(x, 1, 3, 4);
        x.crease(4, 0, 1);
        waysAre(x, 0, 0, 0);
        x.crease(-1, 0, 0);
        x.crease(4, 0, 2);
        waysAre(x, 1, 1, 6);
        DUE.is("all rows of 8 and 8", 12870, Due.worn("row 8 8;gone 0;sewn 3;in 2 2").ways(0));
    }

    private static void waysBySorts() {
        WrongHole x = Due.worn("row 2 2;sort 0 1;takes 1 1;gone 0;sewn 1");
        // 0 in 1 or 1 in 0, not both; gone and sewn are not asked.
        waysAre(x, 3, 0, 0);
        x.crease(2, 0, 1);
        waysAre(x, 1, 1, 2);
        x.crease(2, 0, 0);
        waysAre(x, 0, 0, 0);
    }

    private static void seat() {
        WrongHole x = new WrongHole();
        DUE.is("empty", -1, x.seat(0, 3));
        DUE.is("3 sat there", 3, x.seat(0, 4));
        DUE.is("empty seats", 9, x.count(9));
        DUE.is("he leaves where he sat", -1, x.seat(5, 4));
        DUE.is("empty seats", 9, x.count(9));
        DUE.is("nobody", -1, x.seat(0, -1));
        DUE.is("the same", 4, x.seat(5, 4));
        DUE.is("he goes", 4, x.seat(5, -1));
        DUE.is("empty seats", 10, x.count(9));
        DUE.is("seat 10", -2, x.seat(10, 0));
        DUE.is("seat -1", -2, x.seat(-1, 0));
        DUE.is("who 10", -2, x.seat(0, 10));
        DUE.is("who -2", -2, x.seat(0, -2));
        x.seat(9, 9);
        DUE.is("seat 9", 9, x.seat(9, 0));
        DUE.is("9 stands", 9, x.count(9));
    }

    private static WrongHole seats(int... who) {
        WrongHole x = new WrongHole();
        for (int i = 0; i < who.length; i++) {
            x.seat(i, who[i]);
        }
        return x;
    }

    private static void moves() {
        DUE.is("all empty", 0, new WrongHole().moves(10));
        DUE.is("n 0", -1, new WrongHole().moves(0));
        DUE.is("n 11", -1, new WrongHole().moves(11));
        DUE.is("n -1", -1, new WrongHole().moves(-1));
        DUE.is("all right, none empty", 0, seats(0, 1, 2).moves(3));
        DUE.is("none empty", -2, seats(1, 0, 2).moves(3));
        DUE.is("the fourth is empty", 3, seats(1, 0, 2).moves(4));
        DUE.is("one too high", 3, seats(-1, 0, 1, 2).moves(4));
        DUE.is("a round", 4, seats(1, 2, 0, -1).moves(4));
        DUE.is("two rounds", 6, seats(1, 0, 3, 2, -1).moves(5));
        DUE.is("a round and a chain", 5, seats(1, 0, -1, 2, 3).moves(5));
        DUE.is("one whose seat is not of these", -1, seats(4, 1).moves(3));
        DUE.is("it is of five", 1, seats(4, 1).moves(5));
        DUE.is("of the first one alone", 0, seats(0, 2, 1).moves(1));
        DUE.is("ten", 12, seats(9, 2, 1, 4, 5, 3, 7, 8, 6, -1).moves(10));
    }

    private static void seed() {
        WrongHole x = new WrongHole();
        DUE.is("0 at first", 0, x.seed(5));
        DUE.is("below 0", -1, x.seed(-1));
        DUE.is("it was 5", 5, x.seed(2147483647));
        DUE.is("it was", 2147483647, x.seed(0));
        DUE.is("x", 0, x.count(10));
    }

    private static void dressed() {
        WrongHole x = Due.worn("row 1 1;undo 0 3;do 0 4");
        // Done, undone, done ..: whatever is drawn.
        DUE.is("right", 5, x.dressed(5, 3, 0));
        DUE.is("seconds", 5 * 11, x.dressed(5, 3, 1));
        DUE.is("goals", 5, x.dressed(5, 3, 2));
        DUE.is("open at the end", 0, x.dressed(5, 2, 0));
        DUE.is("no goal", 0, x.dressed(5, 2, 2));
        DUE.is("most", 20 * 30 * 7, x.dressed(20, 60, 1));
        int[][] wrong = {{0, 1, 0}, {21, 1, 0}, {1, 0, 0}, {1, 61, 0}, {1, 1, 3}, {1, 1, -1}, {-1, 1, 0}};
        for (int[] w : wrong) {
            DUE.is("dressed(" + w[0] + ", " + w[1] + ", " + w[2] + ")", -1, x.dressed(w[0], w[1], w[2]));
        }
        // From 0 the draws are 0, 21468, 9988: of four doings the first, 0 into 0; of what may be then,
        // undo 0, 1 into 1, the first: undone; and of four the first again.
        WrongHole y = Due.worn("row 2 2;do 0 5;undo 0 11");
        DUE.is("one act", 5, y.dressed(1, 1, 1));
        DUE.is("two acts", 16, y.dressed(1, 2, 1));
        DUE.is("three acts", 21, y.dressed(1, 3, 1));
        // The draws go on from one dressing to the next: 0, 21468 | 9988, 22117: the second one is 0, and 1.
        DUE.is("twice", 16 + 7, y.dressed(2, 2, 1));
        DUE.is("right", 0 + 2, y.dressed(2, 2, 0));
        DUE.is("goals", 1, y.dressed(2, 2, 2));
        DUE.is("x as it was", 0, y.count(10));
        DUE.is("nothing stays", 2, y.row(0));
    }

    private static void dressedByLaws() {
        WrongHole x = Due.worn("row 2 2;gone 1;never 1");
        DUE.is("none may be", 0, x.dressed(20, 60, 1));
        DUE.is("right", 0, x.dressed(20, 60, 0));
        DUE.is("goals", 0, x.dressed(20, 60, 2));
        WrongHole y = Due.worn("row 1 1;in 0 0;never 0");
        DUE.is("right all the time", 20, y.dressed(20, 60, 0));
        DUE.is("goals", 20, y.dressed(20, 60, 2));
        DUE.is("seconds", 0, y.dressed(20, 60, 1));
    }

    private static void count() {
        WrongHole x = Due.worn("row 5 6;beside 4;never 4;never 0;eye 0 4 3;eye 1 1 1");
        Due.rule(x, "act 1");
        x.waits(40);
        x.fasten(4, 5);
        x.crease(0, 1, 0);
        x.crease(2, 0, 5);
        x.crease(2, 0, 4);
        x.seat(1, 1);
        x.seat(2, 5);
        x.seed(99);
        x.feed(1, 2, 3, 4, 5);
        x.end(13);
        // 0 may never be open, so nothing may be done but by it: the fastening was refused.
        int[] due = {5, 6, 1, 2, 40, 1, 4, 17, 3, 8, 99, 13, -1};
        for (int what = 0; what < due.length; what++) {
            DUE.is("count(" + what + ")", due[what], x.count(what));
        }
        DUE.is("count(-1)", -1, x.count(-1));
    }

    private static void images() {
        WrongHole x = Due.worn("row 3 3;in 0 1;worth 0 7");
        Due.rule(x, "act 1");
        DUE.is("never made", -1, x.back(0));
        x.waits(4);
        x.crease(0, 1, 0);
        x.seat(2, 7);
        x.seed(31);
        DUE.is("image", 4, x.image(0));
        DUE.is("what can be taken back stays", 1, x.count(5));
        Due.rule(x, "act 2");
        x.unfasten(0);
        x.crease(-1, 0, 0);
        x.seat(4, 7);
        x.seed(8);
        DUE.is("image", 5, x.image(3));
        Due.lift(x, "row 8 8");
        x.feed(1, 2, 3, 4, 5);
        DUE.is("back", 4, x.back(0));
        int[] due = {3, 3, 2, 0, 4, 0, 8, 0, 1, 9, 31, 20};
        for (int what = 0; what < due.length; what++) {
            DUE.is("count(" + what + ")", due[what], x.count(what));
        }
        DUE.is("nothing can be taken back", -1, x.takeBack());
        DUE.is("in", 1, x.button(0, 0));
        DUE.is("worth", 7, x.button(0, 5));
        DUE.is("7 sits", 7, x.seat(2, -1));
        DUE.is("its crease", 1, x.crease(0, 0, 0) - 1);
        DUE.is("an image does not change with it", 4, x.back(0));
        DUE.is("creases", 1, x.count(8));
        DUE.is("the other one", 5, x.back(3));
        DUE.is("open", -1, x.button(0, 0));
        DUE.is("creases", 0, x.count(8));
        DUE.is("x", 8, x.count(10));
        DUE.is("anew", 5, x.image(0));
        x.waits(1);
        DUE.is("back", 5, x.back(0));
        DUE.is("never made", -1, x.back(1));
        int[] wrong = {-1, 4, 99, Integer.MIN_VALUE};
        for (int k : wrong) {
            DUE.is("image(" + k + ")", -1, x.image(k));
            DUE.is("back(" + k + ")", -1, x.back(k));
        }
    }

    private static void imageWithoutLift() {
        WrongHole x = new WrongHole();
        DUE.is("image", 0, x.image(2));
        Due.lift(x, "row 2 2");
        x.waits(3);
        DUE.is("back", 0, x.back(2));
        DUE.is("no lift", -1, x.row(0));
        DUE.is("beside", -1, x.count(6));
        DUE.is("clock", 0, x.count(4));
    }

    /** No call may throw, whatever is asked. */
    private static void strangeArguments() {
        int[] strange = {Integer.MIN_VALUE, -33, -1, 0, 1, 7, 8, 9, 31, 32, 33, 300, 1000, Integer.MAX_VALUE};
        WrongHole x = Due.worn("row 8 8;in 0 1;in 3 7;eye 0 7 0");
        Due.rule(x, "act 1");
        long sum = 0;
        for (int a : strange) {
            sum += x.button(a, 0) + x.hole(a, 0) + x.row(a) + x.shown(a) + x.unfasten(a) + x.waits(a) + x.may()
                    + x.fewest(a) + x.goes(a) + x.ways(a) + x.moves(a) + x.seed(a) + x.count(a) + x.image(a)
                    + x.back(a) + x.end(a);
            for (int b : strange) {
                sum += x.button(a, b) + x.hole(a, b) + x.fasten(a, b) + x.run(a, b) + x.act(a, b) + x.step(a, b)
                        + x.floor(a, b) + x.spare(a, b) + x.seat(a, b);
                for (int c : strange) {
                    sum += x.child(a, b, c) + x.crease(a, b, c) + x.dressed(a, b, c);
                }
            }
        }
        DUE.is("all answered", 1, sum == Long.MIN_VALUE ? 0 : 1);
    }
}
