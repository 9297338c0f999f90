/**
 * Promises 17 to 23 and the ways of III, boundary by boundary: the last that is taken, the first that is not.
 * A comment above a test is the sentence of the document that it holds to.
 */
public final class WayEdgeTest {
    private static final Due DUE = new Due();
    private static final int MIN = Integer.MIN_VALUE;
    private static final int MAX = Integer.MAX_VALUE;
    private static final String NO_WAY = "row 2 2;in 0 1;never 0";
    private static final String ALL_RIGHT = "row 8 8;in 0 0;in 1 1;in 2 2;in 3 3;in 4 4;in 5 5;in 6 6;in 7 7";
    private static final String ALL_HIGH = "row 7 8;in 0 1;in 1 2;in 2 3;in 3 4;in 4 5;in 5 6;in 6 7";

    public static void main(String[] args) {
        fewestAsked();
        fewest();
        fewestInTheWay();
        fewestWithoutLaws();
        soonestAsked();
        soonest();
        soonestByLaws();
        noWay();
        stepAsked();
        firstStep();
        floorAsked();
        floorBySeconds();
        floorThreeHundred();
        floorWorth();
        floorShown();
        floorSeconds();
        floorByLaws();
        goesAsked();
        stretches();
        upwards();
        childAsked();
        childMean();
        childLowest();
        spareAsked();
        spareWorth();
        spareOf();
        clockIsNotAsked();
        askedAnew();
        askedOfAnother();
        nothingChanges();
        DUE.close();
    }

    /** "FEWEST what 0: acts, 1: of them UNDOINGS. NONE for others, or without a LIFT." */
    private static void fewestAsked() {
        WrongHole x = Due.worn("row 1 2;in 0 1");
        DUE.is("acts", 2, x.fewest(0));
        DUE.is("undoings", 1, x.fewest(1));
        for (int wrong : new int[] {-1, 2, MIN, MAX}) {
            DUE.is("fewest(" + wrong + ")", -1, x.fewest(wrong));
        }
        DUE.is("without a lift", -1, new WrongHole().fewest(0));
        DUE.is("without a lift", -1, new WrongHole().fewest(1));
    }

    private static void fewestIs(int acts, int undoings, String lift) {
        WrongHole x = Due.worn(lift);
        DUE.is("acts of " + lift, acts, x.fewest(0));
        DUE.is("undoings of " + lift, undoings, x.fewest(1));
    }

    /** "FEWEST: acts to a GOAL ..; how many of them UNDO": none, and the most. */
    private static void fewest() {
        fewestIs(0, 0, ALL_RIGHT);
        fewestIs(8, 0, "row 8 8");
        fewestIs(14, 7, ALL_HIGH);
        fewestIs(0, 0, "row 1 1;gone 0");
        fewestIs(0, 0, "row 2 1;gone 0;in 1 0");
        fewestIs(1, 0, "row 2 2;in 0 0");
    }

    /** "(of several ways the fewest)", "others are in or OPEN as one likes": only one in the way is UNDONE. */
    private static void fewestInTheWay() {
        // 1 can't be right, as hole 1 is sewn. In 0 or 2 it is in the hole of another one, in 3 it is below 2.
        fewestIs(1, 0, "row 3 4;sewn 1;in 0 0");
        fewestIs(3, 1, "row 3 4;sewn 1;in 1 0");
        fewestIs(3, 1, "row 3 4;sewn 1;in 1 2");
        fewestIs(3, 1, "row 3 4;sewn 1;in 1 3");
        // 2 is gone as well: then 3 is nobody's, and below all.
        fewestIs(1, 0, "row 3 4;sewn 1;gone 2;in 1 3");
        fewestIs(1, 0, "row 3 4;sewn 1;gone 2;in 1 2");
        fewestIs(2, 1, "row 3 4;sewn 1;gone 2;in 1 0");
        // 3 has no hole of its number.
        fewestIs(4, 1, "row 4 3;in 3 2");
        fewestIs(0, 0, "row 4 3;gone 2;in 0 0;in 1 1;in 3 2");
    }

    /** "without the LAWS". */
    private static void fewestWithoutLaws() {
        fewestIs(3, 1, NO_WAY);
        fewestIs(14, 7, ALL_HIGH + ";beside 1;never 0;never 6");
    }

    /** "SOONEST; -2: there is no way; NONE without a LIFT." */
    private static void soonestAsked() {
        DUE.is("soonest", 3, Due.worn("row 1 2;in 0 1").soonest());
        DUE.is("no way", -2, Due.worn(NO_WAY).soonest());
        DUE.is("without a lift", -1, new WrongHole().soonest());
    }

    /** "SOONEST: the fewest seconds to a GOAL": none, and the most of one button and of all. */
    private static void soonest() {
        DUE.is("it is a goal", 0, Due.worn(ALL_RIGHT).soonest());
        DUE.is("the least", 1, Due.worn("row 1 1;do 0 1").soonest());
        DUE.is("the most of an act", 40, Due.worn("row 1 1;do 0 20;tie 8 20").soonest());
        DUE.is("eight", 16, Due.worn("row 8 8").soonest());
        DUE.is("seven undone and done", 21, Due.worn(ALL_HIGH).soonest());
        StringBuilder slow = new StringBuilder(ALL_HIGH);
        for (int b = 0; b < 7; b++) {
            slow.append(";undo ").append(b).append(" 20;do ").append(b).append(" 20");
        }
        DUE.is("seven times 80", 560, Due.worn(slow + ";tie 8 20").soonest());
    }

    /** "by acts that may be". */
    private static void soonestByLaws() {
        DUE.is("beside 2", 11, Due.worn("row 4 4;in 0 1;in 1 2;in 2 3;beside 2").soonest());
        DUE.is("beside 1", -2, Due.worn("row 4 4;in 0 1;in 1 2;in 2 3;beside 1").soonest());
        // From above each goes up into the hole that the one above it has left.
        DUE.is("beside 1 with a free hole", 21, Due.worn(ALL_HIGH + ";beside 1").soonest());
        DUE.is("never open", -2, Due.worn(ALL_HIGH + ";never 3").soonest());
        DUE.is("never open, but right", 3, Due.worn("row 2 3;in 0 0;never 0;in 1 2").soonest());
        DUE.is("not lawful ahead", 4, Due.worn("row 2 2;never 0").soonest());
        DUE.is("never lawful", -2, Due.worn("row 2 2;gone 0;never 0").soonest());
        DUE.is("never lawful, but a goal", 0, Due.worn("row 2 2;gone 0;never 0;in 1 1").soonest());
    }

    /** "-2: no way" of soonest, step and child alike; what is asked wrongly is NONE all the same. */
    private static void noWay() {
        WrongHole x = Due.worn(NO_WAY);
        for (int what = 0; what < 3; what++) {
            DUE.is("step", -2, x.step(0, what));
            DUE.is("step", -2, x.step(5, what));
        }
        DUE.is("step what 3", -1, x.step(0, 3));
        DUE.is("step what -1", -1, x.step(0, -1));
        DUE.is("child", -2, x.child(1, 1, 0));
        DUE.is("child", -2, x.child(9, 9, 1));
        DUE.is("child of 2 in 1", -1, x.child(2, 1, 0));
        DUE.is("child part 2", -1, x.child(1, 1, 2));
    }

    /** "The k-th act of its ROW what 0 to 2 as in act; -2: no way, or not so many; NONE without these, or a LIFT." */
    private static void stepAsked() {
        WrongHole x = Due.worn("row 1 2;in 0 1");
        int[][] due = {{0, 0, 1}, {1, 0, 0}};
        for (int k = 0; k < 2; k++) {
            for (int what = 0; what < 3; what++) {
                DUE.is("step(" + k + ", " + what + ")", due[k][what], x.step(k, what));
            }
        }
        for (int what = 0; what < 3; what++) {
            DUE.is("not so many", -2, x.step(2, what));
            DUE.is("not so many", -2, x.step(MAX, what));
            DUE.is("none of a goal", -2, Due.worn(ALL_RIGHT).step(0, what));
            DUE.is("step -1", -1, x.step(-1, what));
            DUE.is("step MIN", -1, x.step(MIN, what));
            DUE.is("without a lift", -1, new WrongHole().step(0, what));
        }
        for (int wrong : new int[] {-1, 3, MIN, MAX}) {
            DUE.is("what " + wrong, -1, x.step(0, wrong));
            DUE.is("what " + wrong + " of no step", -1, x.step(9, wrong));
        }
        DUE.is("a step of one second", 1, Due.worn("row 1 1;do 0 1").step(0, 0));
        WrongHole most = Due.worn(ALL_HIGH);
        DUE.is("the fourteenth of fourteen", 6, most.step(13, 1));
        DUE.is("a fifteenth", -2, most.step(14, 1));
    }

    /** "its ROW: at each step the first act (in the order of II) by which it is as soon still". */
    private static void firstStep() {
        // Undoing both is as soon, and 0 comes ahead of 1; then 0 is done ahead of 1, 1 ahead of 2.
        stepsAre("row 3 3;in 0 1;in 1 2", "0 0 1|0 1 2|1 0 0|1 1 1|1 2 2");
        // Beside 1 it is undone and done one by one from above.
        stepsAre("row 2 3;in 0 1;in 1 2;beside 1", "0 0 1|1 0 0|0 1 2|1 1 1");
        // 1 can't be right, and is let be where it is not in the way.
        stepsAre("row 2 3;sewn 1;in 1 2", "1 0 0");
        stepsAre("row 2 3;sewn 1;in 1 0", "0 1 0|1 0 0");
        // 2 is right: it need not be undone.
        stepsAre("row 3 3;in 0 1;in 2 2", "0 0 1|1 0 0|1 1 1");
        // Of two that can't be right, either done helps the law as soon: the first act of all is taken.
        stepsAre("row 2 2;never 1", "1 1 1|1 0 0");
    }

    private static void stepsAre(String lift, String due) {
        WrongHole x = Due.worn(lift);
        String[] steps = due.split("\\|");
        for (int k = 0; k < steps.length; k++) {
            DUE.is(lift + " step " + k, Integer.parseInt(steps[k].replace(" ", "")),
                    100 * x.step(k, 0) + 10 * x.step(k, 1) + x.step(k, 2));
        }
        DUE.is(lift + " has no more", -2, x.step(steps.length, 0));
    }

    /** "FLOOR by so many seconds (0 to 300)"; "NONE without these, or a LIFT." */
    private static void floorAsked() {
        WrongHole x = Due.worn("row 1 1;worth 0 7;eye 0 0 0");
        int[][] due = {{0, 1, 0}, {7, 0, 2}};
        for (int what = 0; what < 3; what++) {
            DUE.is("floor(0)", due[0][what], x.floor(0, what));
            DUE.is("floor(300)", due[1][what], x.floor(300, what));
            for (int wrong : new int[] {-1, 301, MIN, MAX}) {
                DUE.is("floor(" + wrong + ")", -1, x.floor(wrong, what));
            }
            DUE.is("without a lift", -1, new WrongHole().floor(0, what));
        }
        for (int wrong : new int[] {-1, 3, MIN, MAX}) {
            DUE.is("what " + wrong, -1, x.floor(0, wrong));
        }
    }

    private static void floorIs(WrongHole x, int seconds, int worth, int shown, int took) {
        DUE.is("worth by " + seconds, worth, x.floor(seconds, 0));
        DUE.is("shown by " + seconds, shown, x.floor(seconds, 1));
        DUE.is("seconds by " + seconds, took, x.floor(seconds, 2));
    }

    /** "of all that can be by acts that may be in at most so many": the very second, and one less. */
    private static void floorBySeconds() {
        WrongHole x = Due.worn("row 2 2;in 0 1;undo 0 3;do 0 4;do 1 5;worth 0 10;worth 1 20;eye 0 1 0");
        floorIs(x, 0, 0, 2, 0);
        floorIs(x, 6, 0, 2, 0);
        // 0 is right by 7, 1 by 8, both by 12.
        floorIs(x, 7, 10, 1, 7);
        floorIs(x, 8, 20, 1, 8);
        floorIs(x, 11, 20, 1, 8);
        floorIs(x, 12, 30, 0, 12);
        floorIs(x, 300, 30, 0, 12);
    }

    /** The same at the most seconds that can be told: what takes 300 can be, what takes 301 can't. */
    private static void floorThreeHundred() {
        StringBuilder slow = new StringBuilder("row 8 8");
        for (int b = 0; b < 8; b++) {
            slow.append(";do ").append(b).append(" 20");
        }
        // Seven times 40, and 20 for the last, which is not tied.
        WrongHole x = Due.worn(slow + ";tie 7 20");
        floorIs(x, 300, 8, 0, 300);
        floorIs(x, 299, 7, 0, 260);
        // Seven times 40, and 21 for the last.
        WrongHole y = Due.worn(slow + ";do 7 1;tie 8 20");
        DUE.is("soonest", 301, y.soonest());
        floorIs(y, 300, 7, 0, 261);
    }

    /** "the most worth of RIGHT BUTTONS together". */
    private static void floorWorth() {
        WrongHole none = Due.worn("row 2 2;worth 0 0;worth 1 0");
        floorIs(none, 300, 0, 0, 0);
        WrongHole most = Due.worn(ALL_RIGHT + ";worth 0 99;worth 1 99;worth 2 99;worth 3 99;worth 4 99;worth 5 99"
                + ";worth 6 99;worth 7 99");
        floorIs(most, 0, 8 * 99, 0, 0);
        // By 2 one of them: the dearer one, though the other one is no less right.
        WrongHole one = Due.worn("row 2 2;worth 0 4;worth 1 5");
        floorIs(one, 2, 5, 0, 2);
        // What is right counts as it is, and stays.
        WrongHole kept = Due.worn("row 2 2;in 0 0;worth 0 4");
        floorIs(kept, 1, 4, 0, 0);
    }

    /** "of these the least SHOWN at the second that is so many from now". */
    private static void floorShown() {
        // By 2 either is right: 1 is seen by then.
        WrongHole x = Due.worn("row 2 2;eye 1 1 2");
        floorIs(x, 2, 1, 0, 2);
        DUE.is("ahead of that second", 0, Due.worn("row 2 2;eye 1 1 3").floor(2, 1));
        WrongHole late = Due.wornAt(995, "row 2 2;worth 0 0;worth 1 0;in 0 1;never 0;eye 0 1 999");
        DUE.is("998", 0, late.floor(3, 1));
        DUE.is("999", 2, late.floor(4, 1));
        DUE.is("1000", 2, late.floor(5, 1));
        // One of no worth is done for the sake of the eye, later than without.
        WrongHole eyed = Due.worn("row 2 2;worth 1 0;eye 1 1 0");
        floorIs(eyed, 3, 1, 1, 2);
        floorIs(eyed, 4, 1, 0, 4);
        // Worth comes ahead of what is shown.
        WrongHole dear = Due.worn("row 2 2;worth 0 1;worth 1 2;eye 0 0 0");
        floorIs(dear, 2, 2, 1, 2);
    }

    /** "of these the fewest seconds". */
    private static void floorSeconds() {
        WrongHole x = Due.worn("row 2 2;do 0 3;do 1 5");
        floorIs(x, 5, 1, 0, 3);
        floorIs(x, 7, 1, 0, 3);
        floorIs(x, 8, 2, 0, 8);
        WrongHole right = Due.worn(ALL_RIGHT);
        floorIs(right, 300, 8, 0, 0);
    }

    /** "by acts that may be". */
    private static void floorByLaws() {
        WrongHole x = Due.worn("row 3 3;in 0 1;in 1 2;worth 1 9;beside 2");
        // 0 must go ahead of 1, as 2 is open: 1 + 2 + 1 + 2.
        floorIs(x, 5, 1, 0, 3);
        floorIs(x, 6, 10, 0, 6);
        floorIs(Due.worn(NO_WAY + ";eye 0 1 0"), 300, 0, 2, 0);
        // Not lawful ahead, lawful behind.
        floorIs(Due.worn("row 2 2;never 1;worth 0 50"), 3, 1, 0, 2);
        floorIs(Due.worn("row 2 2;never 1;worth 0 50"), 4, 51, 0, 4);
    }

    /** "GOES with n at once (1 to 8)"; "NONE without these, or a LIFT." */
    private static void goesAsked() {
        WrongHole x = Due.worn(ALL_HIGH);
        DUE.is("goes(1)", 7, x.goes(1));
        DUE.is("goes(8)", 1, x.goes(8));
        for (int wrong : new int[] {0, -1, 9, MIN, MAX}) {
            DUE.is("goes(" + wrong + ")", -1, x.goes(wrong));
        }
        DUE.is("without a lift", -1, new WrongHole().goes(1));
    }

    /** "a STRETCH: WRONG BUTTONS one beside the other in HOLES one beside the other, as long as can be". */
    private static void stretches() {
        DUE.is("none", 0, Due.worn("row 8 8").goes(1));
        DUE.is("all right", 0, Due.worn(ALL_RIGHT).goes(8));
        DUE.is("one", 1, Due.worn("row 2 2;in 0 1").goes(8));
        DUE.is("one stretch", 1, Due.worn("row 4 5;in 0 1;in 1 2;in 2 3").goes(8));
        DUE.is("a hole between", 2, Due.worn("row 4 6;in 0 1;in 1 2;in 2 4").goes(8));
        DUE.is("a button between", 2, Due.worn("row 4 6;in 0 1;in 1 2;in 3 4").goes(8));
        DUE.is("a button between, no hole", 2, Due.worn("row 4 6;in 0 1;in 1 2;in 3 4;gone 2").goes(8));
        DUE.is("right above", 1, Due.worn("row 3 4;in 0 0;in 1 2;in 2 3").goes(8));
        DUE.is("right below", 1, Due.worn("row 4 4;in 1 0;in 2 1;in 3 3").goes(8));
        DUE.is("too low as well", 2, Due.worn("row 5 4;in 1 0;in 2 1;in 3 2;in 4 3").goes(3));
        DUE.is("each by itself", 4, Due.worn("row 4 8;in 0 1;in 1 3;in 2 5;in 3 7").goes(8));
        DUE.is("at the bottom", 2, Due.worn("row 8 8;in 0 1;in 6 7").goes(8));
        DUE.is("the last one is wrong", 1, Due.worn("row 8 8;in 7 6").goes(1));
    }

    /** "each takes its BUTTONS by n, upwards, goes: together". */
    private static void upwards() {
        WrongHole seven = Due.worn(ALL_HIGH);
        int[] due = {7, 4, 3, 2, 2, 2, 1, 1};
        for (int n = 1; n <= 8; n++) {
            DUE.is("seven by " + n, due[n - 1], seven.goes(n));
        }
        WrongHole four = Due.worn("row 4 5;in 0 1;in 1 2;in 2 3;in 3 4");
        int[] dueFour = {4, 2, 2, 1, 1, 1, 1, 1};
        for (int n = 1; n <= 8; n++) {
            DUE.is("four by " + n, dueFour[n - 1], four.goes(n));
        }
        // Each stretch by itself: 1 and 1, not 4 by 4.
        WrongHole apart = Due.worn("row 5 7;in 0 1;in 1 2;in 3 5;in 4 6");
        DUE.is("two and two by 4", 2, apart.goes(4));
        DUE.is("two and two by 1", 4, apart.goes(1));
    }

    /** "CHILD: .. (1 to 9, a not above b)", "part 0: above, 1: below the line"; "NONE without these, or a LIFT". */
    private static void childAsked() {
        WrongHole x = Due.worn("row 1 1");
        int[][] taken = {{1, 1}, {1, 9}, {9, 9}, {8, 9}, {5, 5}};
        for (int[] t : taken) {
            DUE.is("child(" + t[0] + ", " + t[1] + ", 0)", 1, x.child(t[0], t[1], 0) > 0 ? 1 : 0);
            DUE.is("child(" + t[0] + ", " + t[1] + ", 1)", 1, x.child(t[0], t[1], 1) > 0 ? 1 : 0);
        }
        int[][] wrong = {{0, 0}, {0, 1}, {-1, 1}, {1, 0}, {1, -1}, {1, 10}, {10, 10}, {9, 10}, {2, 1}, {9, 8}, {6, 5},
            {MIN, 1}, {1, MAX}, {1, MIN}, {MAX, MAX}, {MIN, MIN}};
        for (int[] w : wrong) {
            DUE.is("child(" + w[0] + ", " + w[1] + ", 0)", -1, x.child(w[0], w[1], 0));
            DUE.is("child(" + w[0] + ", " + w[1] + ", 1)", -1, x.child(w[0], w[1], 1));
        }
        for (int part : new int[] {-1, 2, MIN, MAX}) {
            DUE.is("part " + part, -1, x.child(1, 1, part));
        }
        DUE.is("without a lift", -1, new WrongHole().child(1, 1, 0));
    }

    private static void fraction(WrongHole x, int a, int b, int above, int below) {
        DUE.is("above of " + a + " in " + b, above, x.child(a, b, 0));
        DUE.is("below of " + a + " in " + b, below, x.child(a, b, 1));
    }

    /** "DOES each BUTTON well in a of b tries .., each try as long as it takes: seconds on the mean". */
    private static void childMean() {
        WrongHole x = Due.worn("row 1 2;in 0 1;undo 0 3;do 0 4;tie 1 1");
        // Undoing 4, once; doing 5 a try.
        fraction(x, 1, 1, 9, 1);
        fraction(x, 1, 2, 14, 1);
        fraction(x, 1, 9, 49, 1);
        fraction(x, 2, 3, 23, 2);
        fraction(x, 8, 9, 77, 8);
        fraction(x, 9, 9, 9, 1);
        fraction(Due.worn("row 1 1;do 0 1"), 1, 9, 9, 1);
        StringBuilder slow = new StringBuilder(ALL_HIGH);
        for (int b = 0; b < 7; b++) {
            slow.append(";undo ").append(b).append(" 20;do ").append(b).append(" 20");
        }
        fraction(Due.worn(slow + ";tie 8 20"), 1, 9, 7 * 40 + 7 * 40 * 9, 1);
        fraction(Due.worn(slow + ";tie 8 20"), 9, 9, 560, 1);
    }

    /** "a fraction in lowest terms": 0 as well. */
    private static void childLowest() {
        fraction(Due.worn(ALL_RIGHT), 1, 1, 0, 1);
        fraction(Due.worn(ALL_RIGHT), 7, 9, 0, 1);
        WrongHole x = Due.worn("row 1 1;do 0 6");
        // 6 b / a.
        fraction(x, 4, 6, 9, 1);
        fraction(x, 4, 7, 21, 2);
        fraction(x, 8, 9, 27, 4);
        fraction(x, 9, 9, 6, 1);
        fraction(x, 5, 7, 42, 5);
        fraction(x, 6, 7, 7, 1);
        fraction(x, 7, 8, 48, 7);
    }

    /** "-2: there is none; NONE without these (GONE)" (promise 23). */
    private static void spareAsked() {
        WrongHole x = Due.worn("row 3 5;gone 2;worth 2 5");
        DUE.is("the button", 1, x.spare(2, 0));
        DUE.is("what is won", 4, x.spare(2, 1));
        for (int what = 0; what < 2; what++) {
            DUE.is("not gone", -1, x.spare(1, what));
            for (int wrong : new int[] {-1, 3, 4, 8, 32, 34, MIN, MAX}) {
                DUE.is("button " + wrong, -1, x.spare(wrong, what));
            }
            DUE.is("without a lift", -1, new WrongHole().spare(0, what));
            DUE.is("there is none", -2, Due.worn("row 1 1;gone 0;worth 0 99").spare(0, what));
        }
        for (int wrong : new int[] {-1, 2, MIN, MAX}) {
            DUE.is("what " + wrong, -1, x.spare(2, wrong));
            DUE.is("what " + wrong + " where there is none", -1, Due.worn("row 1 1;gone 0").spare(0, wrong));
        }
    }

    /** "that with the least worth, below its own, of several the greatest number; what is won by it". */
    private static void spareWorth() {
        DUE.is("as much", -2, Due.worn("row 2 2;gone 0;worth 0 5;worth 1 5").spare(0, 0));
        DUE.is("one below", 1, Due.worn("row 2 2;gone 0;worth 0 5;worth 1 4").spare(0, 0));
        DUE.is("one is won", 1, Due.worn("row 2 2;gone 0;worth 0 5;worth 1 4").spare(0, 1));
        DUE.is("the most is won", 99, Due.worn("row 2 2;gone 0;worth 0 99;worth 1 0").spare(0, 1));
        DUE.is("none is below 0", -2, Due.worn("row 2 2;gone 0;worth 0 0;worth 1 0").spare(0, 0));
        WrongHole x = Due.worn("row 5 5;gone 2;worth 2 9;worth 0 3;worth 1 2;worth 3 2;worth 4 3");
        DUE.is("the least worth, the greatest number", 3, x.spare(2, 0));
        DUE.is("seven is won", 7, x.spare(2, 1));
        WrongHole last = Due.worn("row 5 5;gone 0;worth 0 9");
        DUE.is("of four the last", 4, last.spare(0, 0));
        WrongHole first = Due.worn("row 5 5;gone 4;worth 4 9;worth 0 0");
        DUE.is("the first, if it has the least", 0, first.spare(4, 0));
    }

    /** "of those of its SORT that are not" (GONE). */
    private static void spareOf() {
        DUE.is("of another sort", -2, Due.worn("row 2 2;gone 0;worth 0 9;sort 1 1").spare(0, 0));
        DUE.is("of its sort", 1, Due.worn("row 2 2;sort 0 1;gone 0;worth 0 9;sort 1 1").spare(0, 0));
        DUE.is("gone", -2, Due.worn("row 2 2;gone 0;worth 0 9;gone 1").spare(0, 0));
        DUE.is("in or open", 1, Due.worn("row 3 3;gone 0;worth 0 9;in 1 1;worth 2 2").spare(0, 0));
        DUE.is("never open", 1, Due.worn("row 2 2;gone 0;worth 0 9;in 1 1;never 1").spare(0, 0));
        DUE.is("above it or below", 0, Due.worn("row 2 2;gone 1;worth 1 9").spare(1, 0));
    }

    /** "acts that may be" are asked for, and the CLOCK's 9999 is said of acts by hand and by rules alone. */
    private static void clockIsNotAsked() {
        WrongHole x = Due.wornAt(9999, "row 2 2;in 0 1;eye 0 1 999");
        DUE.is("soonest", 5, x.soonest());
        DUE.is("fewest", 3, x.fewest(0));
        DUE.is("step", 0, x.step(0, 0));
        DUE.is("child", 9, x.child(1, 2, 0));
        floorIs(x, 4, 1, 1, 3);
        floorIs(x, 5, 2, 0, 5);
        DUE.is("dressed", 1, x.dressed(1, 1, 1));
    }

    /** What is asked is asked of all as it is now: of another clock, another row, another lift it is another answer. */
    private static void askedAnew() {
        WrongHole y = Due.worn("row 1 2;in 0 1;never 0;eye 0 0 4");
        DUE.is("ahead of its second", 0, y.floor(3, 1));
        y.waits(1);
        DUE.is("in its second", 1, y.floor(3, 1));
        y.takeBack();
        DUE.is("ahead of it again", 0, y.floor(3, 1));
        // Done and open at the same second.
        WrongHole z = Due.worn("row 1 1");
        z.waits(2);
        z.image(0);
        z.takeBack();
        z.fasten(0, 0);
        floorIs(z, 9, 1, 0, 0);
        DUE.is("soonest", 0, z.soonest());
        z.back(0);
        floorIs(z, 9, 1, 0, 2);
        DUE.is("soonest", 2, z.soonest());
        floorIs(z, 1, 0, 0, 0);
        floorIs(z, 2, 1, 0, 2);
    }

    /** The same of a lift that has more of one alone, or less. */
    private static void askedOfAnother() {
        int[][] rows = {{1, 1}, {2, 2}, {2, 8}, {8, 2}, {3, 8}, {8, 3}, {8, 8}};
        for (int[] one : rows) {
            for (int[] other : rows) {
                WrongHole x = new WrongHole();
                askedOf(x, one);
                askedOf(x, other);
                askedOf(x, one);
            }
        }
    }

    private static void askedOf(WrongHole x, int[] row) {
        int right = Math.min(row[0], row[1]);
        Due.lift(x, "row " + row[0] + " " + row[1]);
        DUE.is("soonest", 2 * right, x.soonest());
        floorIs(x, 300, right, 0, 2 * right);
        DUE.is("the last step", right - 1, x.step(right - 1, 2));
    }

    /** "(By what is asked nothing changes.)" */
    private static void nothingChanges() {
        Twin.Made made = () -> {
            WrongHole x = Due.wornAt(40, "row 4 4;in 0 1;in 1 2;in 2 3;gone 3;worth 3 9;eye 0 3 50");
            x.unfasten(0);
            x.crease(4, 1, 2);
            x.seat(3, 1);
            x.seed(77);
            return x;
        };
        Twin.nothingHappens(DUE, "fewest", 5, made, x -> x.fewest(0));
        Twin.nothingHappens(DUE, "soonest", 8, made, WrongHole::soonest);
        Twin.nothingHappens(DUE, "step", 1, made, x -> x.step(0, 1));
        Twin.nothingHappens(DUE, "floor", 3, made, x -> x.floor(300, 0));
        Twin.nothingHappens(DUE, "goes", 1, made, x -> x.goes(2));
        Twin.nothingHappens(DUE, "child", 14, made, x -> x.child(1, 2, 0));
        Twin.nothingHappens(DUE, "spare", 2, made, x -> x.spare(3, 0));
        Twin.nothingHappens(DUE, "ways", 1, made, x -> x.ways(0) > 0 ? 1 : 0);
        Twin.nothingHappens(DUE, "moves", 1, made, x -> x.moves(10));
        Twin.nothingHappens(DUE, "dressed", 1, made, x -> x.dressed(20, 60, 1) > 0 ? 1 : 0);
        Twin.nothingHappens(DUE, "may", 1, made, x -> x.may() > 0 ? 1 : 0);
        Twin.nothingHappens(DUE, "act", 1, made, x -> x.act(0, 1));
        Twin.nothingHappens(DUE, "shown", 4, made, x -> x.shown(50));
        Twin.nothingHappens(DUE, "row", 2, made, x -> x.row(0));
    }
}
