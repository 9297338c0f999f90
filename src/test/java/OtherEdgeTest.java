/**
 * Promises 24 to 32 and the rest of III, boundary by boundary: the last that is taken, the first that is not.
 * A comment above a test is the sentence of the document that it holds to.
 */
public final class OtherEdgeTest {
    private static final Due DUE = new Due();
    private static final int MIN = Integer.MIN_VALUE;
    private static final int MAX = Integer.MAX_VALUE;
    /** Which of eight buttons is done into the one hole shows in the seconds: one more than its number. */
    private static final String DRAWN = "row 8 1;do 0 1;do 1 2;do 2 3;do 3 4;do 4 5;do 5 6;do 6 7;do 7 8";

    public static void main(String[] args) {
        creaseAsked();
        creaseSorts();
        tenCreases();
        noCreases();
        waysAsked();
        waysByCreases();
        waysBySorts();
        seatAsked();
        seatLeft();
        movesAsked();
        movesOfSeats();
        movesRounds();
        movesNone();
        movesNotOfThese();
        seed();
        dressedAsked();
        draws();
        drawsGoOn();
        noDraw();
        dressedSums();
        nothingStays();
        count();
        countsWithoutLift();
        imageAsked();
        imageKeeps();
        imagesApart();
        backTakesNothingBack();
        fiveHundredAndTwelve();
        DUE.close();
    }

    /** "-2, and nothing happens, without these" (promise 24): which CREASES can be told of which BUTTON and HOLE. */
    private static void creaseAsked() {
        WrongHole x = Due.worn("row 3 5");
        int[][] taken = {{0, 0, 0}, {0, 2, 0}, {1, 2, 0}, {2, 0, 0}, {2, 0, 4}, {3, 0, 4}, {4, 2, 4}, {4, 0, 0},
            {5, 2, 4}, {5, 0, 0}};
        for (int i = 0; i < taken.length; i++) {
            DUE.is("crease " + i, i + 1, x.crease(taken[i][0], taken[i][1], taken[i][2]));
        }
        int[][] wrong = {{-2, 0, 0}, {6, 0, 0}, {MIN, 0, 0}, {MAX, 0, 0}, {0, 3, 0}, {0, -1, 0}, {1, 3, 0}, {1, -1, 0},
            {0, 0, 1}, {0, 0, -1}, {1, 0, 1}, {1, 0, -1}, {2, 1, 0}, {2, -1, 0}, {3, 1, 0}, {3, -1, 0}, {2, 0, 5},
            {2, 0, -1}, {3, 0, 5}, {3, 0, -1}, {4, 3, 0}, {4, -1, 0}, {4, 0, 5}, {4, 0, -1}, {5, 3, 0}, {5, -1, 0},
            {5, 0, 5}, {5, 0, -1}, {0, MIN, 0}, {2, 0, MAX}, {4, MAX, MIN}};
        WrongHole y = Due.worn("row 3 5");
        for (int[] w : wrong) {
            DUE.is("crease(" + w[0] + ", " + w[1] + ", " + w[2] + ")", -2, y.crease(w[0], w[1], w[2]));
        }
        DUE.is("nothing happened", 0, y.count(8));
        for (int sort = 0; sort < 6; sort++) {
            DUE.is("without a lift", -2, new WrongHole().crease(sort, 0, 0));
        }
        WrongHole z = Due.worn("row 5 3");
        DUE.is("the last button", 1, z.crease(0, 4, 0));
        DUE.is("the last hole", 2, z.crease(2, 0, 2));
        DUE.is("no such hole", -2, z.crease(2, 0, 3));
        DUE.is("no such hole", -2, z.crease(4, 4, 3));
    }

    private static void waysAre(String about, int many, int all, int none, String lift, int[]... creases) {
        WrongHole x = Due.worn(lift);
        for (int[] c : creases) {
            x.crease(c[0], c[1], c[2]);
        }
        DUE.is(about, creases.length, x.count(8));
        DUE.is(about + ": how many", many, x.ways(0));
        DUE.is(about + ": in in all", all, x.ways(1));
        DUE.is(about + ": in in none", none, x.ways(2));
    }

    /** "was in (sort 0), was OPEN (1), a HOLE had one (2), had none (3), a BUTTON was in a HOLE (4), or not (5)". */
    private static void creaseSorts() {
        // Without a crease 6: none; 0 in 0, 0 in 1, 1 in 0, 1 in 1; both.
        waysAre("none", 6, 0, 0, "row 2 2");
        waysAre("0 was in", 3, 1, 0, "row 2 2", new int[] {0, 0, 0});
        waysAre("1 was in", 3, 2, 0, "row 2 2", new int[] {0, 1, 0});
        waysAre("0 was open", 3, 0, 1, "row 2 2", new int[] {1, 0, 0});
        waysAre("1 was open", 3, 0, 2, "row 2 2", new int[] {1, 1, 0});
        waysAre("0 had one", 3, 0, 0, "row 2 2", new int[] {2, 0, 0});
        waysAre("1 had one", 3, 0, 0, "row 2 2", new int[] {2, 0, 1});
        waysAre("0 had none", 3, 0, 0, "row 2 2", new int[] {3, 0, 0});
        waysAre("1 had none", 3, 0, 0, "row 2 2", new int[] {3, 0, 1});
        waysAre("0 was in 0", 2, 1, 0, "row 2 2", new int[] {4, 0, 0});
        waysAre("0 was in 1", 1, 1, 2, "row 2 2", new int[] {4, 0, 1});
        waysAre("1 was in 0", 1, 2, 1, "row 2 2", new int[] {4, 1, 0});
        waysAre("0 was not in 0", 4, 0, 0, "row 2 2", new int[] {5, 0, 0});
        waysAre("0 was not in 1", 5, 0, 0, "row 2 2", new int[] {5, 0, 1});
    }

    /** "or if there are 10". */
    private static void tenCreases() {
        WrongHole x = Due.worn("row 2 2");
        for (int i = 1; i <= 10; i++) {
            DUE.is("crease", i, x.crease(i < 10 ? 5 : 0, 0, 0));
        }
        DUE.is("the tenth counts", 1, x.ways(0));
        DUE.is("an eleventh", -2, x.crease(0, 1, 0));
        DUE.is("ten", 10, x.count(8));
        DUE.is("nothing happened", 1, x.ways(0));
    }

    /** "(sort NONE: there are none then, 0". */
    private static void noCreases() {
        WrongHole x = Due.worn("row 2 2");
        DUE.is("of none", 0, x.crease(-1, 0, 0));
        for (int i = 0; i < 10; i++) {
            x.crease(1, 0, 0);
        }
        DUE.is("of ten", 0, x.crease(-1, 0, 0));
        DUE.is("none", 0, x.count(8));
        DUE.is("all ways", 6, x.ways(0));
        DUE.is("one again", 1, x.crease(0, 0, 0));
        DUE.is("it alone counts", 3, x.ways(0));
    }

    /** "NONE for others, or without a LIFT" (promise 25). */
    private static void waysAsked() {
        WrongHole x = Due.worn("row 1 1");
        DUE.is("how many", 2, x.ways(0));
        DUE.is("in all", 0, x.ways(1));
        DUE.is("in none", 0, x.ways(2));
        for (int wrong : new int[] {-1, 3, MIN, MAX}) {
            DUE.is("ways(" + wrong + ")", -1, x.ways(wrong));
        }
        for (int what = 0; what < 3; what++) {
            DUE.is("without a lift", -1, new WrongHole().ways(what));
        }
    }

    /** "by which all CREASES are so"; "(0: there is no way)". */
    private static void waysByCreases() {
        waysAre("the most", 12870, 0, 0, "row 8 8");
        waysAre("the eighth was in the first", 1, 128, 127, "row 8 8", new int[] {4, 7, 0});
        waysAre("the first was in the eighth", 1, 1, 254, "row 8 8", new int[] {4, 0, 7});
        waysAre("in and open", 0, 0, 0, "row 8 8", new int[] {0, 7, 0}, new int[] {1, 7, 0});
        waysAre("one and none", 0, 0, 0, "row 8 8", new int[] {2, 0, 7}, new int[] {3, 0, 7});
        waysAre("in and not in", 0, 0, 0, "row 8 8", new int[] {4, 3, 3}, new int[] {5, 3, 3});
        waysAre("not rising", 0, 0, 0, "row 3 3", new int[] {4, 0, 2}, new int[] {4, 2, 0});
        waysAre("two in one hole", 0, 0, 0, "row 3 3", new int[] {4, 0, 1}, new int[] {4, 1, 1});
        waysAre("one in two holes", 0, 0, 0, "row 3 3", new int[] {4, 0, 1}, new int[] {4, 0, 2});
        waysAre("more buttons than holes", 0, 0, 0, "row 3 2", new int[] {0, 0, 0}, new int[] {0, 1, 0},
                new int[] {0, 2, 0});
        waysAre("as many", 1, 3, 4, "row 3 2", new int[] {0, 0, 0}, new int[] {0, 1, 0});
        waysAre("more holes than buttons", 0, 0, 0, "row 1 2", new int[] {2, 0, 0}, new int[] {2, 0, 1});
        // What is in what now is not asked.
        waysAre("now", 6, 0, 0, "row 2 2;in 0 1");
    }

    /** "by SORTS (GONE, SEWN are not asked)". */
    private static void waysBySorts() {
        waysAre("of no sort that is taken", 1, 0, 3, "row 2 2;sort 0 1;sort 1 2");
        waysAre("one of its own", 2, 0, 2, "row 2 2;sort 0 3;takes 1 3;sort 1 2");
        waysAre("gone, sewn", 6, 0, 0, "row 2 2;gone 0;gone 1;sewn 0;sewn 1");
        waysAre("gone was in", 3, 1, 0, "row 2 2;gone 0", new int[] {0, 0, 0});
        waysAre("sewn had one", 3, 0, 0, "row 2 2;sewn 0", new int[] {2, 0, 0});
        // Another lift has ways of its own.
        WrongHole x = Due.worn("row 8 8");
        DUE.is("ways", 12870, x.ways(0));
        Due.lift(x, "row 2 2;sort 0 1");
        DUE.is("ways", 3, x.ways(0));
        DUE.is("in none", 1, x.ways(2));
        Due.lift(x, "row 2 2");
        DUE.is("ways", 6, x.ways(0));
    }

    /** "SEATS 0 to 9 .. (0 to 9, NONE: empty)"; "-2, and nothing happens, without these". */
    private static void seatAsked() {
        WrongHole x = new WrongHole();
        DUE.is("seat 0", -1, x.seat(0, 9));
        DUE.is("seat 9", -1, x.seat(9, 0));
        for (int wrong : new int[] {-1, 10, MIN, MAX}) {
            DUE.is("seat " + wrong, -2, x.seat(wrong, 5));
            DUE.is("seat " + wrong + ", nobody", -2, x.seat(wrong, -1));
        }
        for (int wrong : new int[] {-2, 10, MIN, MAX}) {
            DUE.is("who " + wrong, -2, x.seat(0, wrong));
        }
        DUE.is("nothing happened", 8, x.count(9));
        DUE.is("9 sits there", 9, x.seat(0, -1));
        DUE.is("0 sits there", 0, x.seat(9, -1));
    }

    /** "A SEAT becomes somebody's (he leaves where he sat), or empty: who sat there (NONE)". */
    private static void seatLeft() {
        WrongHole x = new WrongHole();
        DUE.is("empty", 10, x.count(9));
        x.seat(2, 5);
        DUE.is("another seat", -1, x.seat(7, 5));
        DUE.is("one is taken", 9, x.count(9));
        DUE.is("he has left", -1, x.seat(2, -1));
        DUE.is("the same again", 5, x.seat(7, 5));
        DUE.is("one is taken", 9, x.count(9));
        x.seat(2, 6);
        DUE.is("he takes another's seat", 6, x.seat(2, 5));
        DUE.is("6 stands, 7 is empty", 9, x.count(9));
        DUE.is("7 is empty", -1, x.seat(7, -1));
        DUE.is("one who stands sits again", -1, x.seat(7, 6));
        DUE.is("empty", 5, x.seat(2, -1));
        DUE.is("empty again", -1, x.seat(2, -1));
        for (int i = 0; i < 10; i++) {
            x.seat(i, 9 - i);
        }
        DUE.is("none is empty", 0, x.count(9));
        DUE.is("3 goes from 6 to 0", 9, x.seat(0, 3));
        DUE.is("6 is empty", 1, x.count(9));
    }

    private static WrongHole seats(int... who) {
        WrongHole x = new WrongHole();
        for (int i = 0; i < who.length; i++) {
            x.seat(i, who[i]);
        }
        return x;
    }

    /** "MOVES for SEATS 0 to n less 1 (n 1 to 10) .. NONE without these". */
    private static void movesAsked() {
        WrongHole x = seats(0, 1, 2, 3, 4, 5, 6, 7, 8, 9);
        for (int n = 1; n <= 10; n++) {
            DUE.is("moves(" + n + ")", 0, x.moves(n));
            DUE.is("all are empty", 0, new WrongHole().moves(n));
        }
        for (int wrong : new int[] {0, -1, 11, MIN, MAX}) {
            DUE.is("moves(" + wrong + ")", -1, x.moves(wrong));
        }
    }

    /** "one goes from a seat to an empty one: the fewest till each who sits is in the seat of his number". */
    private static void movesOfSeats() {
        DUE.is("one elsewhere", 1, seats(-1, 0).moves(2));
        DUE.is("one elsewhere", 1, seats(1, -1).moves(2));
        DUE.is("a chain", 9, seats(-1, 0, 1, 2, 3, 4, 5, 6, 7, 8).moves(10));
        DUE.is("a chain the other way", 9, seats(1, 2, 3, 4, 5, 6, 7, 8, 9, -1).moves(10));
        DUE.is("empty ones as they come", 0, seats(0, -1, 2, -1).moves(4));
        DUE.is("two chains", 2, seats(1, -1, -1, 2).moves(4));
    }

    /** The same: a round takes one move more than it has people, as one must make room first. */
    private static void movesRounds() {
        DUE.is("two", 3, seats(1, 0, -1).moves(3));
        DUE.is("three", 4, seats(1, 2, 0, -1).moves(4));
        DUE.is("three the other way", 4, seats(2, 0, 1, -1).moves(4));
        DUE.is("the empty one is first", 3, seats(-1, 2, 1).moves(3));
        DUE.is("four rounds of two", 12, seats(1, 0, 3, 2, 5, 4, 7, 6, -1).moves(9));
        DUE.is("four of two, two empty", 12, seats(1, 0, 3, 2, 5, 4, 7, 6, -1, -1).moves(10));
        DUE.is("nine in one", 10, seats(1, 2, 3, 4, 5, 6, 7, 8, 0, -1).moves(10));
        DUE.is("a round, a chain, one right", 5, seats(1, 0, 2, -1, 3, 4).moves(6));
        DUE.is("the empty one is within", 3, seats(0, 3, 1, -1, 2).moves(5));
    }

    /** "none, if no seat is empty and somebody is elsewhere". */
    private static void movesNone() {
        DUE.is("full, two elsewhere", -2, seats(1, 0).moves(2));
        DUE.is("full, all right", 0, seats(0, 1).moves(2));
        DUE.is("one more is empty", 3, seats(1, 0).moves(3));
        DUE.is("ten, full", -2, seats(0, 1, 2, 3, 4, 5, 6, 7, 9, 8).moves(10));
        DUE.is("the first eight of them", 0, seats(0, 1, 2, 3, 4, 5, 6, 7, 9, 8).moves(8));
    }

    /** "NONE .. if one there sits whose seat is not of these". */
    private static void movesNotOfThese() {
        WrongHole x = seats(3, 1, -1, -1);
        DUE.is("3 of 0 to 2", -1, x.moves(3));
        DUE.is("3 of 0 to 3", 1, x.moves(4));
        DUE.is("full, and one not of these", -1, seats(1, 0, 3).moves(3));
        // 0 sits in 5: he is none of those who sit there.
        WrongHole y = new WrongHole();
        y.seat(5, 0);
        y.seat(1, 1);
        DUE.is("one who sits behind them", 0, y.moves(5));
        DUE.is("he is one of these", 1, y.moves(6));
        DUE.is("the ninth of nine", -1, seats(9).moves(9));
        DUE.is("of ten", 1, seats(9).moves(10));
    }

    /** "x becomes a number: what it was; NONE, and nothing happens, below 0", "(0 to 2147483647; 0 at first)". */
    private static void seed() {
        WrongHole x = new WrongHole();
        DUE.is("0 at first", 0, x.count(10));
        DUE.is("it was 0", 0, x.seed(MAX));
        DUE.is("the greatest", MAX, x.count(10));
        DUE.is("below 0", -1, x.seed(-1));
        DUE.is("below 0", -1, x.seed(MIN));
        DUE.is("nothing happened", MAX, x.count(10));
        DUE.is("it was the greatest", MAX, x.seed(0));
        DUE.is("it was 0", 0, x.seed(1));
        DUE.is("1", 1, x.count(10));
    }

    /** "DRESSINGS m times (1 to 20) n acts (1 to 60)"; "NONE without these, or a LIFT". */
    private static void dressedAsked() {
        WrongHole x = Due.worn("row 1 1");
        int[][] taken = {{1, 1, 2}, {20, 1, 40}, {1, 60, 90}, {20, 60, 1800}};
        for (int[] t : taken) {
            DUE.is("dressed(" + t[0] + ", " + t[1] + ", 1)", t[2], x.dressed(t[0], t[1], 1));
        }
        int[][] wrong = {{0, 1}, {-1, 1}, {21, 1}, {1, 0}, {1, -1}, {1, 61}, {MIN, 1}, {MAX, 1}, {1, MIN}, {1, MAX}};
        for (int what = 0; what < 3; what++) {
            for (int[] w : wrong) {
                DUE.is("dressed(" + w[0] + ", " + w[1] + ", " + what + ")", -1, x.dressed(w[0], w[1], what));
            }
            DUE.is("without a lift", -1, new WrongHole().dressed(1, 1, what));
        }
        for (int what : new int[] {-1, 3, MIN, MAX}) {
            DUE.is("what " + what, -1, x.dressed(1, 1, what));
        }
    }

    private static WrongHole seeded(int x, String lift) {
        WrongHole w = Due.worn(lift);
        w.seed(x);
        return w;
    }

    /** "x becomes x * 1103515245 + 12345, of 2147483648 the rest; a DRAW is x / 65536"; "DRAW mod how many may be". */
    private static void draws() {
        // The first draws by hand: 0, 16838, 18655, 15929, 31859, 16384, and the greatest one, 32767.
        int[][] due = {{0, 0}, {1, 16838}, {5, 18655}, {MAX, 15929}, {MAX - 1, 31859}, {1073741824, 16384},
            {286434947, 32767}, {2088216195, 0}};
        for (int[] d : due) {
            DUE.is("of eight from " + d[0], d[1] % 8 + 1, seeded(d[0], DRAWN).dressed(1, 1, 1));
            // Of 7: the eighth is gone.
            DUE.is("of seven from " + d[0], d[1] % 7 + 1, seeded(d[0], DRAWN + ";gone 7").dressed(1, 1, 1));
        }
        DUE.is("of 64 the last", 1, seeded(286434947, "row 8 8;do 7 9").dressed(1, 1, 0));
        DUE.is("of 64 the last", 9, seeded(286434947, "row 8 8;do 7 9").dressed(1, 1, 1));
        DUE.is("of 64 the first", 9, seeded(0, "row 8 8;do 0 9").dressed(1, 1, 1));
    }

    /** A DRAW for each act, one behind the other through all dressings; each of these begins as it is now. */
    private static void drawsGoOn() {
        // From 1: 16838, 5758, 10113, 17515: by 8 6, 6, 1, 3. Done, undone (1 second), done.
        DUE.is("one act", 7, seeded(1, DRAWN).dressed(1, 1, 1));
        DUE.is("two acts", 7 + 1, seeded(1, DRAWN).dressed(1, 2, 1));
        DUE.is("three acts", 7 + 1 + 2, seeded(1, DRAWN).dressed(1, 3, 1));
        // From 5: by 8 7, 1, 0, 5.
        DUE.is("twice one act", 8 + 2, seeded(5, DRAWN).dressed(2, 1, 1));
        DUE.is("three times one act", 8 + 2 + 1, seeded(5, DRAWN).dressed(3, 1, 1));
        DUE.is("twice two acts", 8 + 1 + 1 + 1, seeded(5, DRAWN).dressed(2, 2, 1));
    }

    /** "(none: no act, no DRAW)". */
    private static void noDraw() {
        // Once it is in it may never be open. From 5: by 8 7, 1, 0: only the third is right.
        String lift = "row 1 8;never 0";
        DUE.is("two with one draw each", 0, seeded(5, lift).dressed(2, 2, 0));
        DUE.is("three with one draw each", 1, seeded(5, lift).dressed(3, 60, 0));
        DUE.is("three acts", 6, seeded(5, lift).dressed(3, 60, 1));
        DUE.is("one goal", 1, seeded(5, lift).dressed(3, 60, 2));
        DUE.is("none at all", 0, Due.worn("row 1 1;gone 0").dressed(20, 60, 1));
        DUE.is("a goal each time", 20, Due.worn("row 1 1;gone 0").dressed(20, 60, 2));
    }

    /** "RIGHT BUTTONS, seconds, all together; how often a GOAL at the end". */
    private static void dressedSums() {
        WrongHole x = Due.worn("row 1 1;undo 0 20;do 0 20;tie 1 20");
        DUE.is("the most seconds", 48000, x.dressed(20, 60, 1));
        DUE.is("open at the end", 0, x.dressed(20, 60, 0));
        DUE.is("no goal at the end", 0, x.dressed(20, 60, 2));
        DUE.is("in at the end", 20, x.dressed(20, 59, 0));
        DUE.is("a goal at the end", 20, x.dressed(20, 59, 2));
        WrongHole y = Due.worn("row 8 8;in 0 0;in 1 1;in 2 2;in 3 3;in 4 4;in 5 5;in 6 6;in 7 7;never 0;never 1"
                + ";never 2;never 3;never 4;never 5;never 6;never 7");
        DUE.is("the most right ones", 160, y.dressed(20, 60, 0));
        WrongHole wrong = Due.worn("row 1 2;in 0 1;never 0");
        DUE.is("wrong is not right", 0, wrong.dressed(20, 60, 0));
        DUE.is("and no goal", 0, wrong.dressed(20, 60, 2));
    }

    /** "(nothing stays; x as it was)". */
    private static void nothingStays() {
        WrongHole x = seeded(5, DRAWN);
        DUE.is("once", 8, x.dressed(1, 1, 1));
        DUE.is("again", 8, x.dressed(1, 1, 1));
        DUE.is("x", 5, x.count(10));
        DUE.is("clock", 0, x.count(4));
        DUE.is("open", 8, x.row(0));
        DUE.is("taken back", 0, x.count(5));
    }

    /** "NONE for others" (promise 30). */
    private static void count() {
        WrongHole x = Due.worn("row 8 7;beside 6;never 7;never 0;eye 0 7 0;in 0 0;in 7 6");
        Due.rule(x, "act 1");
        x.waits(9);
        x.unfasten(3);
        x.crease(0, 7, 0);
        x.seat(9, 9);
        x.seed(4);
        x.feed(0, 0, 0, 0, 0);
        int[] due = {8, 7, 1, 1, 9, 1, 6, 129, 1, 9, 4, 20};
        for (int what = 0; what < 12; what++) {
            DUE.is("count(" + what + ")", due[what], x.count(what));
        }
        for (int wrong : new int[] {-1, 12, MIN, MAX}) {
            DUE.is("count(" + wrong + ")", -1, x.count(wrong));
        }
    }

    /** "No LIFT, no RULES."; "(6 without a LIFT, too)". */
    private static void countsWithoutLift() {
        WrongHole x = new WrongHole();
        int[] due = {0, 0, 0, 0, 0, 0, -1, 0, 0, 10, 0, 0, -1};
        for (int what = 0; what < 13; what++) {
            DUE.is("count(" + what + ")", due[what], x.count(what));
        }
        Due.rule(x, "act 1");
        x.seat(0, 0);
        x.seed(3);
        x.feed(0, 0, 0, 0, 0);
        int[] then = {0, 0, 1, 0, 0, 0, -1, 0, 0, 9, 3, 20};
        for (int what = 0; what < 12; what++) {
            DUE.is("then count(" + what + ")", then[what], x.count(what));
        }
    }

    /** "IMAGES 0 to 3"; "An IMAGE is made: CLOCK; NONE without it."; "NONE, .. if it was never made, or without it". */
    private static void imageAsked() {
        WrongHole x = Due.wornAt(12, "row 1 1");
        for (int k = 0; k < 4; k++) {
            DUE.is("never made " + k, -1, x.back(k));
        }
        for (int wrong : new int[] {-1, 4, MIN, MAX}) {
            DUE.is("image(" + wrong + ")", -1, x.image(wrong));
            DUE.is("back(" + wrong + ")", -1, x.back(wrong));
        }
        for (int k = 0; k < 4; k++) {
            DUE.is("still never made " + k, -1, x.back(k));
            DUE.is("image(" + k + ")", 12, x.image(k));
            DUE.is("back(" + k + ")", 12, x.back(k));
        }
        WrongHole bare = new WrongHole();
        DUE.is("without a lift the clock is 0", 0, bare.image(0));
        Due.lift(bare, "row 1 1");
        bare.waits(3);
        DUE.is("back", 0, bare.back(0));
        DUE.is("no lift again", -1, bare.row(0));
    }

    /** "all but the TAPE and the RULES, as it is; gone back to, it is as it was (these stay". */
    private static void imageKeeps() {
        WrongHole x = Due.wornAt(12, "row 3 4;in 0 1;worth 0 7;eye 0 2 0;beside 3;never 0");
        x.crease(4, 0, 1);
        x.crease(4, 1, 2);
        x.seat(3, 4);
        x.seed(99);
        x.image(2);
        x.fasten(1, 3);
        x.crease(-1, 0, 0);
        x.crease(0, 2, 0);
        x.crease(0, 1, 0);
        x.crease(0, 0, 0);
        x.seat(5, 4);
        x.seat(6, 6);
        x.seed(98);
        Due.lift(x, "row 8 8");
        Due.rule(x, "act 1");
        x.feed(0, 0, 0, 0, 0);
        DUE.is("back", 12, x.back(2));
        int[] due = {3, 4, 1, 1, 12, 0, 3, 1, 2, 9, 99, 20};
        for (int what = 0; what < 12; what++) {
            DUE.is("count(" + what + ")", due[what], x.count(what));
        }
        DUE.is("0 in 1", 1, x.button(0, 0));
        DUE.is("1 is open", -1, x.button(1, 0));
        DUE.is("worth", 7, x.button(0, 5));
        // 0 in 1, 1 in 2, and 2 in 3 or open.
        DUE.is("its creases", 2, x.ways(0));
        DUE.is("4 sits in 3", 4, x.seat(3, -1));
        DUE.is("nobody sits in 5", -1, x.seat(5, -1));
        DUE.is("the rule stays", 0, x.run(0, 1) - 1);
    }

    /** Each image for itself: made anew, and not changed by what comes later. */
    private static void imagesApart() {
        WrongHole x = Due.worn("row 2 2");
        for (int k = 0; k < 4; k++) {
            x.waits(10);
            DUE.is("image", 10 * k + 10, x.image(k));
            x.seat(k, k);
        }
        for (int k = 3; k >= 0; k--) {
            DUE.is("back", 10 * k + 10, x.back(k));
            DUE.is("seats", 10 - k, x.count(9));
            x.seat(9, 9);
            x.fasten(0, 0);
            x.crease(0, 0, 0);
        }
        DUE.is("as it was", 40, x.back(3));
        DUE.is("seats", 7, x.count(9));
        DUE.is("creases", 0, x.count(8));
        DUE.is("open", 2, x.row(0));
        DUE.is("anew", 40, x.image(0));
        DUE.is("the other one", 20, x.back(1));
        DUE.is("the new one", 40, x.back(0));
    }

    /** "nothing can be TAKEN BACK then". */
    private static void backTakesNothingBack() {
        WrongHole x = Due.worn("row 2 2");
        x.waits(1);
        x.image(0);
        DUE.is("an image takes nothing", 1, x.count(5));
        x.waits(2);
        DUE.is("two can be", 2, x.count(5));
        DUE.is("refused", -1, x.back(1));
        DUE.is("two can still be", 2, x.count(5));
        DUE.is("back", 1, x.back(0));
        DUE.is("none can be", 0, x.count(5));
        DUE.is("none can", -1, x.takeBack());
        DUE.is("clock", 1, x.count(4));
        x.waits(5);
        DUE.is("what comes then can be", 0, x.takeBack());
        DUE.is("clock", 1, x.count(4));
    }

    /** "An object is used for at most 512 calls after it has been made": the last of these answers as the first. */
    private static void fiveHundredAndTwelve() {
        WrongHole x = Due.worn("row 1 1");
        // end, feed, end and lift were four.
        for (int call = 5; call <= 511; call++) {
            x.waits(1);
        }
        DUE.is("the 512th call", 507, x.count(4));
    }
}
