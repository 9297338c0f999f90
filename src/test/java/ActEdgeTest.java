/**
 * Promises 6 to 16 and II of the Terms, boundary by boundary: the last that is taken, the first that is not.
 * A comment above a test is the sentence of the document that it holds to.
 */
public final class ActEdgeTest {
    private static final Due DUE = new Due();
    private static final int MIN = Integer.MIN_VALUE;
    private static final int MAX = Integer.MAX_VALUE;

    public static void main(String[] args) {
        button();
        everRight();
        seenFromItsSecondOn();
        hole();
        row();
        openInARow();
        lawful();
        goal();
        shown();
        shownByEyes();
        unfasten();
        lawfulBehindUndoing();
        fasten();
        rising();
        canBeIn();
        lawfulBehindDoing();
        withTheTie();
        clock();
        waits();
        lastTwenty();
        takenBackRound();
        takenBackWhole();
        run();
        aboveZero();
        greatest();
        first();
        firstClause();
        runAtTheClock();
        runIsNotTakenBack();
        wordsOfAnAct();
        may();
        act();
        clockIsNotAskedByMay();
        DUE.close();
    }

    /** "-2 without these" (promise 6). */
    private static void button() {
        WrongHole x = Due.worn("row 3 5;in 2 4;sort 1 3;gone 0");
        DUE.is("the last", 4, x.button(2, 0));
        DUE.is("the first", 1, x.button(0, 2));
        DUE.is("what 7", 1, x.button(2, 7));
        for (int wrong : new int[] {-1, 3, 4, 8, 32, MIN, MAX}) {
            for (int what = 0; what < 8; what++) {
                DUE.is("button " + wrong + " what " + what, -2, x.button(wrong, what));
            }
        }
        for (int wrong : new int[] {-1, 8, 9, MIN, MAX}) {
            DUE.is("what " + wrong, -2, x.button(0, wrong));
        }
        for (int what = 0; what < 8; what++) {
            DUE.is("without a lift", -2, new WrongHole().button(0, what));
        }
    }

    /** "can ever be RIGHT (not GONE; there is that HOLE, not SEWN, that takes the SORT)". */
    private static void everRight() {
        WrongHole x = Due.worn("row 8 3;gone 0;sewn 1");
        int[] due = {0, 0, 1, 0, 0, 0, 0, 0};
        for (int b = 0; b < 8; b++) {
            DUE.is("can " + b + " be right", due[b], x.button(b, 7));
        }
        WrongHole y = Due.worn("row 4 4;sort 0 1;takes 1 1;sort 2 3;takes 2 3;sort 3 2;takes 3 3");
        int[] sorts = {0, 0, 1, 0};
        for (int b = 0; b < 4; b++) {
            DUE.is("can " + b + " be right by its sort", sorts[b], y.button(b, 7));
        }
    }

    /** "6: EYES that see its place now", "from their second on". */
    private static void seenFromItsSecondOn() {
        WrongHole x = Due.wornAt(998, "row 5 5;eye 1 3 999");
        DUE.is("a second ahead", 0, x.button(2, 6));
        x.waits(1);
        int[] due = {0, 1, 1, 1, 0};
        for (int b = 0; b < 5; b++) {
            DUE.is("from its second on " + b, due[b], x.button(b, 6));
        }
        x.waits(999);
        DUE.is("later, too", 1, x.button(1, 6));
        x.takeBack();
        x.takeBack();
        DUE.is("ahead again", 0, x.button(1, 6));
    }

    /** "-2 without these" (promise 7). */
    private static void hole() {
        WrongHole x = Due.worn("row 3 5;in 2 4;sewn 0;takes 3 2");
        DUE.is("the last", 2, x.hole(4, 0));
        DUE.is("the first", 1, x.hole(0, 2));
        DUE.is("none in it", -1, x.hole(0, 0));
        DUE.is("takes", 2, x.hole(3, 1));
        DUE.is("takes", 0, x.hole(2, 1));
        for (int wrong : new int[] {-1, 5, 8, 32, MIN, MAX}) {
            for (int what = 0; what < 3; what++) {
                DUE.is("hole " + wrong + " what " + what, -2, x.hole(wrong, what));
            }
        }
        for (int wrong : new int[] {-1, 3, MIN, MAX}) {
            DUE.is("what " + wrong, -2, x.hole(0, wrong));
        }
        for (int what = 0; what < 3; what++) {
            DUE.is("without a lift", -2, new WrongHole().hole(0, what));
        }
        WrongHole y = Due.worn("row 5 3;in 4 2");
        DUE.is("fewer holes than buttons", 4, y.hole(2, 0));
        DUE.is("no such hole", -2, y.hole(3, 0));
    }

    /** "NONE for others, or without a LIFT" (promise 8). */
    private static void row() {
        WrongHole x = Due.worn("row 4 5;in 0 0;in 2 4;gone 1");
        int[] due = {2, 1, 1, 1, 1, 0};
        for (int what = 0; what < 6; what++) {
            DUE.is("row(" + what + ")", due[what], x.row(what));
            DUE.is("without a lift", -1, new WrongHole().row(what));
        }
        for (int wrong : new int[] {-1, 6, MIN, MAX}) {
            DUE.is("row(" + wrong + ")", -1, x.row(wrong));
        }
    }

    /** "3: OPEN in a row at most": at the top, at the bottom, between, none, all; "OPEN .. (GONE ones, too)". */
    private static void openInARow() {
        DUE.is("none", 0, Due.worn("row 2 2;in 0 0;in 1 1").row(3));
        DUE.is("all", 8, Due.worn("row 8 8").row(3));
        DUE.is("at the top", 2, Due.worn("row 4 4;in 2 2").row(3));
        DUE.is("at the bottom", 2, Due.worn("row 4 4;in 1 1").row(3));
        DUE.is("between", 2, Due.worn("row 6 6;in 1 1;in 4 4").row(3));
        DUE.is("gone ones, too", 3, Due.worn("row 3 3;gone 1").row(3));
        DUE.is("gone ones, too", 3, Due.worn("row 3 3;gone 1").row(0));
        DUE.is("one and one", 1, Due.worn("row 3 3;in 1 1").row(3));
    }

    /** "LAWFUL: no more than beside BUTTONS are OPEN in a row, and none of which it was told never." */
    private static void lawful() {
        DUE.is("8 by 8", 1, Due.worn("row 8 8;beside 8").row(4));
        DUE.is("8 without", 1, Due.worn("row 8 8").row(4));
        DUE.is("8 by 7", 0, Due.worn("row 8 8;beside 7").row(4));
        DUE.is("7 by 7", 1, Due.worn("row 8 8;beside 7;in 7 7").row(4));
        DUE.is("1 by 1", 1, Due.worn("row 3 3;beside 1;in 1 1").row(4));
        DUE.is("2 by 1", 0, Due.worn("row 3 3;beside 1;in 2 2").row(4));
        DUE.is("one of never is open", 0, Due.worn("row 3 3;never 2;in 0 0;in 1 1").row(4));
        DUE.is("another one is", 1, Due.worn("row 3 3;never 2;in 2 2").row(4));
        DUE.is("wrong is not open", 1, Due.worn("row 3 3;never 2;in 2 1").row(4));
        DUE.is("gone is open", 0, Due.worn("row 3 3;never 2;gone 2").row(4));
        DUE.is("two of never", 0, Due.worn("row 3 3;never 2;never 0;in 2 2").row(4));
    }

    /** "GOAL: all BUTTONS that can ever be RIGHT .. are; others are in or OPEN as one likes." */
    private static void goal() {
        DUE.is("all but one", 0, Due.worn("row 3 3;in 0 0;in 1 1").row(5));
        DUE.is("all", 1, Due.worn("row 3 3;in 0 0;in 1 1;in 2 2").row(5));
        DUE.is("one is wrong", 0, Due.worn("row 3 4;in 0 0;in 1 1;in 2 3").row(5));
        DUE.is("that one is without a hole", 1, Due.worn("row 3 2;in 0 0;in 1 1").row(5));
        DUE.is("that one is gone", 1, Due.worn("row 3 3;gone 2;in 0 0;in 1 1").row(5));
        DUE.is("that hole is sewn", 1, Due.worn("row 3 3;sewn 2;in 0 0;in 1 1").row(5));
        DUE.is("of another sort, elsewhere", 1, Due.worn("row 3 4;takes 2 1;in 0 0;in 1 1;in 2 3").row(5));
        DUE.is("none can", 1, Due.worn("row 1 1;gone 0").row(5));
    }

    /** "SHOWN at a second (0 to 9999), all as it is now; NONE without these, or a LIFT." */
    private static void shown() {
        WrongHole x = Due.worn("row 3 3;eye 0 2 0");
        DUE.is("shown(0)", 3, x.shown(0));
        DUE.is("shown(9999)", 3, x.shown(9999));
        for (int wrong : new int[] {-1, 10000, MIN, MAX}) {
            DUE.is("shown(" + wrong + ")", -1, x.shown(wrong));
        }
        DUE.is("without a lift", -1, new WrongHole().shown(0));
        WrongHole late = Due.worn("row 3 3;eye 0 2 999");
        DUE.is("a second ahead", 0, late.shown(998));
        DUE.is("from its second on", 3, late.shown(999));
        DUE.is("later, too", 3, late.shown(1000));
        WrongHole later = Due.wornAt(5000, "row 3 3;eye 0 2 999");
        DUE.is("the clock is not asked", 0, later.shown(998));
        DUE.is("the row is, as it is now", 2, later.fasten(0, 0) > 0 ? later.shown(999) : -9);
    }

    /** "of all EYES that see by then BUTTONS from the one to the other one that are OPEN or WRONG, all together." */
    private static void shownByEyes() {
        String row = "row 5 5;in 0 0;in 1 2;in 4 4;gone 3;";
        DUE.is("right", 0, Due.worn(row + "eye 0 0 0").shown(0));
        DUE.is("wrong", 1, Due.worn(row + "eye 1 1 0").shown(0));
        DUE.is("open", 1, Due.worn(row + "eye 2 2 0").shown(0));
        DUE.is("gone", 1, Due.worn(row + "eye 3 3 0").shown(0));
        DUE.is("from the one", 2, Due.worn(row + "eye 2 4 0").shown(0));
        DUE.is("to the other one", 2, Due.worn(row + "eye 0 2 0").shown(0));
        DUE.is("of all eyes, all together", 4, Due.worn(row + "eye 1 2 0;eye 2 3 0").shown(0));
        DUE.is("of six eyes", 18, Due.worn(row + "eye 0 4 0" + ";eye 0 4 0".repeat(5)).shown(0));
        DUE.is("of those that see by then", 5, Due.worn(row + "eye 0 4 3;eye 1 2 3;eye 2 2 4").shown(3));
        DUE.is("without eyes", 0, Due.worn("row 5 5").shown(9999));
    }

    /** "NONE, and nothing happens, if it may not be, or without it" (promise 10). */
    private static void unfasten() {
        WrongHole x = Due.worn("row 3 4;in 0 1;in 2 3");
        for (int wrong : new int[] {-1, 3, 4, 8, 32, MIN, MAX}) {
            DUE.is("unfasten(" + wrong + ")", -1, x.unfasten(wrong));
        }
        DUE.is("open already", -1, x.unfasten(1));
        DUE.is("nothing happened", 0, x.count(4) + x.count(5));
        DUE.is("the first", 1, x.unfasten(0));
        DUE.is("the last", 2, x.unfasten(2));
        DUE.is("open now", -1, x.unfasten(2));
        DUE.is("both are open", 3, x.row(0));
        DUE.is("its hole is empty", -1, x.hole(3, 0));
        DUE.is("without a lift", -1, new WrongHole().unfasten(0));
    }

    /** "an act may be, if it can, and it is LAWFUL behind it (ahead of it or not)": of UNDOING. */
    private static void lawfulBehindUndoing() {
        String in = "row 4 4;in 0 0;in 1 1;in 2 2;in 3 3;";
        WrongHole two = Due.worn(in + "beside 2");
        DUE.is("one", 1, two.unfasten(0));
        DUE.is("two in a row", 2, two.unfasten(1));
        DUE.is("three in a row", -1, two.unfasten(2));
        DUE.is("two and one", 3, two.unfasten(3));
        WrongHole one = Due.worn(in + "beside 1");
        DUE.is("one", 1, one.unfasten(1));
        DUE.is("beside it", -1, one.unfasten(0));
        DUE.is("beside it", -1, one.unfasten(2));
        DUE.is("not beside it", 2, one.unfasten(3));
        WrongHole never = Due.worn(in + "never 3");
        DUE.is("never", -1, never.unfasten(3));
        DUE.is("another one", 1, never.unfasten(2));
        WrongHole not = Due.worn("row 3 3;in 0 0;never 2");
        DUE.is("not lawful ahead, not behind", -1, not.unfasten(0));
    }

    /** "NONE, and nothing happens, if it may not be, or without these" (promise 11). */
    private static void fasten() {
        WrongHole x = Due.worn("row 3 5;in 1 2");
        for (int wrong : new int[] {-1, 3, 5, 8, 32, MIN, MAX}) {
            DUE.is("button " + wrong, -1, x.fasten(wrong, 0));
        }
        for (int wrong : new int[] {-1, 5, 8, 32, MIN, MAX}) {
            DUE.is("hole " + wrong, -1, x.fasten(2, wrong));
        }
        DUE.is("nothing happened", 0, x.count(4) + x.count(5));
        DUE.is("the last into the last", 2, x.fasten(2, 4));
        DUE.is("the first into the first", 4, x.fasten(0, 0));
        DUE.is("without a lift", -1, new WrongHole().fasten(0, 0));
        WrongHole y = Due.worn("row 5 3");
        DUE.is("no such hole", -1, y.fasten(4, 3));
        DUE.is("the last into the last", 2, y.fasten(4, 2));
    }

    /** "RISING: of two BUTTONS that are in, the lesser one is in the lesser HOLE." */
    private static void rising() {
        int[][] due = {{0, 0, 2}, {0, 1, 2}, {0, 2, -1}, {0, 3, -1}, {2, 2, -1}, {2, 3, 2}, {2, 1, -1}, {2, 7, 2},
            {4, 4, 2}, {4, 5, -1}, {4, 6, -1}, {4, 2, -1}, {4, 3, 2}, {7, 5, -1}, {7, 6, 2}, {7, 4, -1}, {7, 7, 2}};
        for (int[] d : due) {
            // 1 in 2, and for those below 2 also 6 in 5.
            WrongHole x = Due.worn("row 8 8;in 1 2" + (d[0] > 2 ? ";in 6 5" : ""));
            DUE.is(d[0] + " into " + d[1], d[2], x.fasten(d[0], d[1]));
        }
    }

    /** "A BUTTON can be in a HOLE that is not SEWN and takes its SORT, if it is not GONE, no other one is there". */
    private static void canBeIn() {
        WrongHole x = Due.worn("row 4 4;sewn 1;sort 2 3;takes 2 3;gone 3;in 0 0");
        DUE.is("into a sewn one", -1, x.fasten(1, 1));
        DUE.is("into one of another sort", -1, x.fasten(1, 2));
        DUE.is("of another sort", -1, x.fasten(2, 3));
        DUE.is("gone", -1, x.fasten(3, 3));
        DUE.is("one is there", -1, x.fasten(1, 0));
        DUE.is("it is in", -1, x.fasten(0, 0));
        DUE.is("it is in, another hole", -1, x.fasten(0, 3));
        DUE.is("of its sort", 2, x.fasten(2, 2));
        DUE.is("not rising then", -1, x.fasten(1, 3));
        DUE.is("undone", 3, x.unfasten(2));
        DUE.is("now it is", 5, x.fasten(1, 3));
    }

    /** The same sentence of DOING: "LAWFUL behind it (ahead of it or not)". */
    private static void lawfulBehindDoing() {
        WrongHole x = Due.worn("row 4 4;never 1;never 2");
        DUE.is("one of never stays open", -1, x.fasten(1, 1));
        WrongHole y = Due.worn("row 4 4;never 1");
        DUE.is("it stays open", -1, y.fasten(0, 0));
        DUE.is("not lawful ahead", 2, y.fasten(1, 1));
        DUE.is("lawful ahead", 4, y.fasten(0, 0));
        WrongHole z = Due.worn("row 4 4;beside 2");
        DUE.is("three stay", -1, z.fasten(0, 0));
        DUE.is("three stay", -1, z.fasten(3, 3));
        DUE.is("two stay", 2, z.fasten(1, 1));
    }

    /** "It takes its seconds, and those of the tie; the CLOCK goes on by them". */
    private static void withTheTie() {
        WrongHole x = Due.worn("row 3 3;in 0 0;in 1 1;undo 0 3;undo 1 5;do 0 7;do 1 9;tie 1 20");
        DUE.is("3 and 20", 23, x.unfasten(0));
        DUE.is("5 alone", 28, x.unfasten(1));
        DUE.is("7 and 20", 55, x.fasten(0, 0));
        DUE.is("9 alone", 64, x.fasten(1, 1));
        DUE.is("2 alone", 66, x.fasten(2, 2));
    }

    /** "(9999 at most)"; "NONE, and nothing happens, .. or above 9999" (promises 10, 11). */
    private static void clock() {
        WrongHole x = Due.wornAt(9998, "row 1 1;in 0 0");
        DUE.is("9999", 9999, x.unfasten(0));
        WrongHole y = Due.wornAt(9999, "row 1 1;in 0 0");
        DUE.is("10000", -1, y.unfasten(0));
        DUE.is("it is in", 0, y.button(0, 0));
        DUE.is("clock", 9999, y.count(4));
        WrongHole z = Due.wornAt(9997, "row 1 1");
        DUE.is("9999", 9999, z.fasten(0, 0));
        WrongHole w = Due.wornAt(9998, "row 1 1");
        DUE.is("10000", -1, w.fasten(0, 0));
        DUE.is("it is open", -1, w.button(0, 0));
        DUE.is("clock", 9998, w.count(4));
        String tied = "row 2 2;in 0 0;undo 0 20;do 1 20;tie 2 20";
        DUE.is("9959 and 40", 9999, Due.wornAt(9959, tied).fasten(1, 1));
        DUE.is("9960 and 40", -1, Due.wornAt(9960, tied).fasten(1, 1));
        DUE.is("9959 and 40", 9999, Due.wornAt(9959, tied).unfasten(0));
        DUE.is("9960 and 40", -1, Due.wornAt(9960, tied).unfasten(0));
    }

    /** "WAIT so many seconds (1 to 999): CLOCK; NONE, and nothing happens, without these (no LIFT), or above 9999." */
    private static void waits() {
        WrongHole x = Due.worn("row 1 1");
        for (int wrong : new int[] {0, -1, 1000, MIN, MAX}) {
            DUE.is("waits(" + wrong + ")", -1, x.waits(wrong));
        }
        DUE.is("nothing happened", 0, x.count(4) + x.count(5));
        DUE.is("waits(1)", 1, x.waits(1));
        DUE.is("waits(999)", 1000, x.waits(999));
        DUE.is("without a lift", -1, new WrongHole().waits(1));
        WrongHole y = Due.wornAt(9000, "row 1 1");
        DUE.is("9999", 9999, y.waits(999));
        DUE.is("10000", -1, y.waits(1));
        WrongHole z = Due.wornAt(9001, "row 1 1");
        DUE.is("10000", -1, z.waits(999));
        DUE.is("clock", 9001, z.count(4));
        DUE.is("9999", 9999, z.waits(998));
    }

    /** "The last 20 of these can be TAKEN BACK, the last first." */
    private static void lastTwenty() {
        for (int waits = 19; waits <= 21; waits++) {
            WrongHole x = Due.worn("row 1 1");
            for (int i = 1; i <= waits; i++) {
                DUE.is("how many can be", Math.min(i - 1, 20), x.count(5));
                x.waits(i);
            }
            int most = Math.min(waits, 20);
            DUE.is("how many can be", most, x.count(5));
            int clock = x.count(4);
            for (int i = 0; i < most; i++) {
                DUE.is("takeBack", most - 1 - i, x.takeBack());
                clock -= waits - i;
                DUE.is("clock", clock, x.count(4));
            }
            DUE.is("none can", -1, x.takeBack());
            DUE.is("clock", waits - most, x.count(4));
        }
        DUE.is("none can be of a new object", -1, new WrongHole().takeBack());
        DUE.is("none can be of a new lift", -1, Due.worn("row 1 1").takeBack());
    }

    /** The same where what was taken back gives its place to later acts. */
    private static void takenBackRound() {
        WrongHole x = Due.worn("row 1 1");
        for (int i = 0; i < 20; i++) {
            x.waits(1);
        }
        for (int i = 0; i < 5; i++) {
            x.takeBack();
        }
        for (int i = 0; i < 30; i++) {
            x.waits(10);
        }
        DUE.is("clock", 315, x.count(4));
        DUE.is("twenty can be", 20, x.count(5));
        for (int i = 1; i <= 20; i++) {
            x.takeBack();
            DUE.is("clock", 315 - 10 * i, x.count(4));
        }
        DUE.is("none can", -1, x.takeBack());
        DUE.is("one more", 116, x.waits(1));
        DUE.is("one can be", 0, x.takeBack());
        DUE.is("clock", 115, x.count(4));
    }

    /** UNDOING, DOING and WAIT can all be TAKEN BACK: BUTTON, HOLE and CLOCK are as they were. */
    private static void takenBackWhole() {
        WrongHole x = Due.worn("row 3 3;in 0 1;in 1 2;undo 0 7");
        x.unfasten(0);
        x.fasten(0, 0);
        x.waits(100);
        x.unfasten(1);
        DUE.is("clock", 110, x.count(4));
        DUE.is("undoing back", 3, x.takeBack());
        DUE.is("in again", 2, x.button(1, 0));
        DUE.is("in again", 1, x.hole(2, 0));
        DUE.is("clock", 109, x.count(4));
        DUE.is("wait back", 2, x.takeBack());
        DUE.is("clock", 9, x.count(4));
        DUE.is("doing back", 1, x.takeBack());
        DUE.is("open again", -1, x.button(0, 0));
        DUE.is("empty again", -1, x.hole(0, 0));
        DUE.is("clock", 7, x.count(4));
        DUE.is("undoing back", 0, x.takeBack());
        DUE.is("in again", 1, x.button(0, 0));
        DUE.is("clock", 0, x.count(4));
    }

    /** "BY A RULE n acts (1 to 60): how many there were ..; NONE without these, or a LIFT." */
    private static void run() {
        WrongHole x = Due.worn("row 1 1");
        Due.rule(x, "act 1");
        for (int wrong : new int[] {0, -1, 61, MIN, MAX}) {
            DUE.is("n " + wrong, -1, x.run(0, wrong));
        }
        for (int wrong : new int[] {-1, 1, 5, 6, MIN, MAX}) {
            DUE.is("rule " + wrong, -1, x.run(wrong, 1));
        }
        DUE.is("nothing happened", 0, x.count(4));
        DUE.is("one", 1, x.run(0, 1));
        DUE.is("clock", 2, x.count(4));
        DUE.is("sixty", 60, x.run(0, 60));
        DUE.is("clock", 92, x.count(4));
        WrongHole bare = new WrongHole();
        DUE.is("no rule, no lift", -1, bare.run(0, 1));
        Due.rule(bare, "act 1");
        DUE.is("without a lift", -1, bare.run(0, 1));
    }

    private static int runs(String lift, String rule) {
        WrongHole x = Due.worn(lift);
        Due.rule(x, rule);
        return x.run(0, 60);
    }

    /** "if it is above 0; .. without one it is over". */
    private static void aboveZero() {
        DUE.is("1", 60, runs("row 1 1", "act 1"));
        DUE.is("0", 0, runs("row 1 1", "act 0"));
        DUE.is("below 0", 0, runs("row 1 1", "act 0-1"));
        DUE.is("it is over by itself", 3, runs("row 3 3", "act right*done"));
        DUE.is("0 without", 0, runs("row 1 1", "act 5 if 1=2;act 5 if 1=2"));
        DUE.is("none may be", 0, runs("row 1 1;gone 0", "act 1"));
        DUE.is("none may be by a law", 0, runs("row 1 1;in 0 0;never 0", "act 1"));
    }

    /** "each time of all acts that may be that with the greatest SUM". */
    private static void greatest() {
        WrongHole x = Due.worn("row 3 3");
        Due.rule(x, "act button*10+hole+1-done*0");
        x.run(0, 1);
        DUE.is("2 into 2", 2, x.button(2, 0));
        WrongHole y = Due.worn("row 3 3;in 0 0;in 2 2");
        Due.rule(y, "act button+1 if done=0");
        y.run(0, 1);
        DUE.is("2 is undone", -1, y.button(2, 0));
        DUE.is("0 is not", 0, y.button(0, 0));
        WrongHole z = Due.worn("row 2 2");
        Due.rule(z, "act 32768*32768*32768*32768*8-1 if button=1;act 99999*99999*99999");
        z.run(0, 1);
        DUE.is("the greatest there is", -1, z.button(0, 0));
    }

    /** "of several the first: UNDOING by BUTTONS, then DOING by BUTTONS, then HOLES". */
    private static void first() {
        WrongHole x = Due.worn("row 4 4;in 2 2;in 3 3");
        Due.rule(x, "act 1");
        x.run(0, 1);
        DUE.is("undoing 2", -1, x.button(2, 0));
        DUE.is("not 3", 3, x.button(3, 0));
        Due.rule(x, "act 1 if done=1");
        x.run(1, 1);
        DUE.is("doing 0 into 0", 0, x.button(0, 0));
        x.run(1, 1);
        DUE.is("doing 1 into 1", 1, x.button(1, 0));
        x.run(1, 1);
        DUE.is("doing 2 into 2", 2, x.button(2, 0));
    }

    /** "the first CLAUSE without a TEST, or whose TEST holds (0 without)". */
    private static void firstClause() {
        DUE.is("the first without a test", 0, runs("row 1 1", "act 0;act 1"));
        DUE.is("the first whose test holds", 0, runs("row 1 1", "act 0 if 1=1;act 1"));
        DUE.is("one whose test does not hold", 60, runs("row 1 1", "act 0 if 1=2;act 1"));
        DUE.is("the last", 60, runs("row 1 1", "act 0 if 1=2;act 0 if 2=1;act 1 if 1=1"));
    }

    /** "(one by which the CLOCK would be above 9999 is none: it is over)". */
    private static void runAtTheClock() {
        WrongHole x = Due.wornAt(9990, "row 1 1");
        Due.rule(x, "act 1");
        // 2, 1, 2, 1, 2, 1: 9999 is reached and no more.
        DUE.is("six", 6, x.run(0, 60));
        DUE.is("clock", 9999, x.count(4));
        DUE.is("over", 0, x.run(0, 60));
        DUE.is("clock", 9999, x.count(4));
        WrongHole y = Due.wornAt(9992, "row 2 2;do 1 5");
        Due.rule(y, "act 1+button if right=1 and done=1");
        DUE.is("5 and 2", 2, y.run(0, 60));
        DUE.is("clock", 9999, y.count(4));
        WrongHole z = Due.wornAt(9995, "row 2 2;do 1 5");
        Due.rule(z, "act 1+button if right=1 and done=1");
        DUE.is("it is over, though the other one would do", 0, z.run(0, 60));
        DUE.is("clock", 9995, z.count(4));
        DUE.is("open", 2, z.row(0));
    }

    /** "(These can't be TAKEN BACK: nothing ahead of them can, either.)" */
    private static void runIsNotTakenBack() {
        WrongHole x = Due.worn("row 2 2");
        Due.rule(x, "act 1 if done=1 and right=1");
        x.waits(3);
        x.waits(4);
        DUE.is("two can be", 2, x.count(5));
        DUE.is("an act", 1, x.run(0, 1));
        DUE.is("none can be", 0, x.count(5));
        DUE.is("none can", -1, x.takeBack());
        DUE.is("clock", 9, x.count(4));
        x.waits(5);
        DUE.is("what comes behind can be", 0, x.takeBack());
        DUE.is("none ahead of it", -1, x.takeBack());
        x.waits(1);
        DUE.is("refused", -1, x.run(0, 61));
        DUE.is("a refused one is none of them", 1, x.count(5));
        x.run(0, 1);
        x.waits(1);
        DUE.is("no act", 0, x.run(0, 60));
        DUE.is("without an act there is nothing to be ahead of", 1, x.count(5));
        DUE.is("it can be taken back", 0, x.takeBack());
        DUE.is("clock", 12, x.count(4));
    }

    /** A rule by which the act comes if the test holds, and one by which it does not. */
    private static void tells(String lift, int waits, String test) {
        WrongHole x = Due.worn(lift);
        if (waits > 0) {
            x.waits(waits);
        }
        Due.rule(x, "act 1 if not [" + test + "]");
        Due.rule(x, "act 1 if " + test);
        DUE.is("not " + test, 0, x.run(0, 1));
        DUE.is(test, 1, x.run(1, 1));
    }

    /** The WORDS of an act: each where it goes from one value to the next. */
    private static void wordsOfAnAct() {
        String doing = "row 2 2;gone 0;sewn 0";
        tells(doing, 0, "done=1 and button=1 and hole=1 and right=1");
        tells("row 1 2;sewn 0", 0, "done=1 and button=0 and hole=1 and right=0");
        tells("row 1 1;in 0 0", 0, "done=0 and button=0 and hole=0 and right=1");
        tells("row 1 2;in 0 1", 0, "done=0 and button=0 and hole=1 and right=0");
        tells(doing, 0, "open=2 and wrong=0 and run=2 and after=1");
        tells("row 3 3;in 0 1;gone 1;gone 2", 0, "open=2 and wrong=1 and run=2 and after=3");
        tells("row 3 3;in 1 1;gone 0;gone 2", 0, "open=2 and wrong=0 and run=1 and after=3");
        tells("row 1 1;in 0 0", 0, "open=0 and run=0 and after=1");
        tells("row 1 1", 0, "open=1 and run=1 and after=0");
        tells(doing, 0, "seconds=2");
        tells(doing + ";do 1 20;tie 1 20", 0, "seconds=20");
        tells(doing + ";do 1 20;tie 2 20", 0, "seconds=40");
        tells("row 1 1;in 0 0;undo 0 20;tie 8 20", 0, "seconds=40");
        tells(doing, 0, "clock=0");
        tells(doing, 999, "clock=999");
        tells(doing + ";eye 0 1 5;eye 1 1 6;eye 0 0 0", 4, "seen=0");
        tells(doing + ";eye 0 1 5;eye 1 1 6;eye 0 0 0", 5, "seen=1");
        tells(doing + ";eye 0 1 5;eye 1 1 6;eye 0 0 0", 6, "seen=2");
        tells(doing, 0, "worth=1");
        tells(doing + ";worth 1 0", 0, "worth=0");
        tells(doing + ";worth 1 99", 0, "worth=99");
        // All of these are told anew for each act of a run.
        WrongHole x = Due.worn("row 1 1;eye 0 0 5");
        Due.rule(x, "act 1 if seen=0");
        DUE.is("2, 1, 2 seconds, then it is seen", 3, x.run(0, 60));
        WrongHole y = Due.worn("row 4 4");
        Due.rule(y, "act 1 if clock<4 and done=1");
        DUE.is("at 0 and 2", 2, y.run(0, 60));
        WrongHole z = Due.worn("row 4 4");
        Due.rule(z, "act 1 if open>1 and done=1");
        DUE.is("4, 3, 2 are open", 3, z.run(0, 60));
    }

    /** "Acts that may be: how many; NONE without a LIFT." */
    private static void may() {
        DUE.is("the most", 64, Due.worn("row 8 8").may());
        DUE.is("none", 0, Due.worn("row 1 1;gone 0").may());
        DUE.is("one", 1, Due.worn("row 1 1").may());
        DUE.is("undoing alone", 8, Due.worn("row 8 8;in 0 0;in 1 1;in 2 2;in 3 3;in 4 4;in 5 5;in 6 6;in 7 7").may());
        DUE.is("without a lift", -1, new WrongHole().may());
    }

    /** "The k-th of these what 0: .. NONE without these." */
    private static void act() {
        WrongHole x = Due.worn("row 8 8");
        int[] last = {1, 7, 7};
        int[] first = {1, 0, 0};
        for (int what = 0; what < 3; what++) {
            DUE.is("the first", first[what], x.act(0, what));
            DUE.is("the last", last[what], x.act(63, what));
            for (int wrong : new int[] {-1, 64, 72, 100, MIN, MAX}) {
                DUE.is("act(" + wrong + ")", -1, x.act(wrong, what));
            }
            DUE.is("without a lift", -1, new WrongHole().act(0, what));
            DUE.is("none may be", -1, Due.worn("row 1 1;gone 0").act(0, what));
        }
        for (int wrong : new int[] {-1, 3, MIN, MAX}) {
            DUE.is("what " + wrong, -1, x.act(0, wrong));
        }
        // Undoing 0 and 2, then 1 into 2 and 3, then 3 into 5.
        WrongHole y = Due.worn("row 4 6;in 0 1;in 2 4;sewn 0");
        int[][] due = {{0, 0, 1}, {0, 2, 4}, {1, 1, 2}, {1, 1, 3}, {1, 3, 5}};
        DUE.is("may", due.length, y.may());
        for (int k = 0; k < due.length; k++) {
            for (int what = 0; what < 3; what++) {
                DUE.is("act(" + k + ", " + what + ")", due[k][what], y.act(k, what));
            }
        }
        DUE.is("act(5, 0)", -1, y.act(5, 0));
    }

    /** "an act may be, if it can, and it is LAWFUL behind it": "above 9999" is another reason to refuse it. */
    private static void clockIsNotAskedByMay() {
        WrongHole x = Due.wornAt(9999, "row 2 2;in 0 1");
        DUE.is("may", 1, x.may());
        DUE.is("the act", 0, x.act(0, 1));
        DUE.is("it is refused", -1, x.unfasten(0));
    }
}
