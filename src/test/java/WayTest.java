/** Promises 17 to 23: the fewest acts, the soonest way, what can be by a second, goes, a child, a spare one. */
public final class WayTest {
    private static final Due DUE = new Due();
    private static final String HIGH = "row 4 4;in 0 1;in 1 2;in 2 3";

    public static void main(String[] args) {
        fewest();
        soonest();
        noWay();
        step();
        floor();
        goes();
        child();
        spare();
        nothingChanges();
        DUE.close();
    }

    private static void fewest() {
        WrongHole x = Due.worn(HIGH + ";beside 1;never 1");
        DUE.is("acts without the laws", 7, x.fewest(0));
        DUE.is("undoings", 3, x.fewest(1));
        DUE.is("what 2", -1, x.fewest(2));
        DUE.is("what -1", -1, x.fewest(-1));
        WrongHole right = Due.worn("row 2 2;in 0 0;in 1 1");
        DUE.is("all is right", 0, right.fewest(0));
        DUE.is("all is right", 0, right.fewest(1));
        // 3 has no hole of its number; in 2 it is in the way of 2.
        WrongHole way = Due.worn("row 4 3;in 3 2");
        DUE.is("one in the way", 4, way.fewest(0));
        DUE.is("one in the way", 1, way.fewest(1));
        // 2 can't be right; in 3 it is in nobody's way.
        WrongHole off = Due.worn("row 3 4;sewn 2;in 2 3");
        DUE.is("one aside", 2, off.fewest(0));
        DUE.is("one aside", 0, off.fewest(1));
        // 0 can't be right; in 2 it bars 1 from 1.
        WrongHole bars = Due.worn("row 2 3;sewn 0;in 0 2");
        DUE.is("one that bars", 2, bars.fewest(0));
        DUE.is("one that bars", 1, bars.fewest(1));
    }

    private static void soonest() {
        DUE.is("3 undone, 4 done", 11, Due.worn(HIGH).soonest());
        DUE.is("with the tie", 17, Due.worn(HIGH + ";tie 1 3").soonest());
        DUE.is("told seconds", 11 + 4 + 8, Due.worn(HIGH + ";undo 1 5;do 3 10").soonest());
        DUE.is("right already", 0, Due.worn("row 2 2;in 0 0;in 1 1").soonest());
        DUE.is("right already, not lawful", 0, Due.worn("row 3 2;in 0 0;in 1 1;never 2").soonest());
        DUE.is("others as one likes", 0, Due.worn("row 2 2;gone 0;sewn 1").soonest());
        DUE.is("two beside each other", 11, Due.worn(HIGH + ";beside 2").soonest());
        DUE.is("one after the other", 6, Due.worn("row 2 3;in 0 1;in 1 2;beside 1").soonest());
        // 2 can't be right, but is done into 4 first, so that no two are open in a row.
        DUE.is("another one is done for the law", 5, Due.worn("row 3 5;sewn 2;in 0 0;in 1 3;beside 1").soonest());
        DUE.is("without the law", 3, Due.worn("row 3 5;sewn 2;in 0 0;in 1 3").soonest());
        // 1 can't be right and may never be open: a goal is where it is in.
        DUE.is("a goal with another one in", 2, Due.worn("row 2 3;sewn 1;in 1 2;never 1").soonest());
        DUE.is("not lawful ahead", 4, Due.worn("row 2 2;beside 1").soonest());
    }

    private static void noWay() {
        WrongHole x = Due.worn("row 2 2;in 0 1;never 0");
        DUE.is("never", -2, x.soonest());
        DUE.is("step", -2, x.step(0, 0));
        DUE.is("child", -2, x.child(1, 2, 0));
        DUE.is("child", -2, x.child(1, 2, 1));
        DUE.is("fewest all the same", 3, x.fewest(0));
        DUE.is("one at a time can't be", -2, Due.worn(HIGH + ";beside 1").soonest());
    }

    private static void step() {
        WrongHole x = Due.worn("row 3 3;in 0 1;in 1 2");
        // Undo 0, undo 1, do 0, 1, 2 in their order; undoing comes first where it is as soon.
        int[][] due = {{0, 0, 1}, {0, 1, 2}, {1, 0, 0}, {1, 1, 1}, {1, 2, 2}};
        for (int k = 0; k < due.length; k++) {
            for (int what = 0; what < 3; what++) {
                DUE.is("step(" + k + ", " + what + ")", due[k][what], x.step(k, what));
            }
        }
        DUE.is("not so many", -2, x.step(5, 0));
        DUE.is("not so many", -2, x.step(Integer.MAX_VALUE, 2));
        DUE.is("step -1", -1, x.step(-1, 0));
        DUE.is("what 3", -1, x.step(0, 3));
        DUE.is("what -1", -1, x.step(9, -1));
        DUE.is("right already", -2, Due.worn("row 1 1;in 0 0").step(0, 0));
        // With two at most open in a row, 2 being open: undo 1, then 0 may not be undone.
        WrongHole y = Due.worn("row 3 3;in 0 1;in 1 2;beside 2");
        int[][] lawful = {{0, 0, 1}, {1, 0, 0}, {0, 1, 2}, {1, 1, 1}, {1, 2, 2}};
        for (int k = 0; k < lawful.length; k++) {
            for (int what = 0; what < 3; what++) {
                DUE.is("lawful step(" + k + ", " + what + ")", lawful[k][what], y.step(k, what));
            }
        }
        y.unfasten(1);
        DUE.is("from the row as it is", 1, y.step(0, 0));
    }

    private static void floor() {
        WrongHole x = Due.worn("row 3 3;in 0 1;in 1 2;worth 0 2;worth 1 9;worth 2 5;eye 0 2 0;eye 0 0 20");
        int[][] due = {
            {0, 0, 3, 0}, {2, 0, 3, 0}, {3, 5, 2, 3}, {4, 9, 2, 4}, {6, 14, 1, 6}, {8, 16, 0, 8}, {300, 16, 0, 8}};
        for (int[] d : due) {
            for (int what = 0; what < 3; what++) {
                DUE.is("floor(" + d[0] + ", " + what + ")", d[what + 1], x.floor(d[0], what));
            }
        }
        x.waits(16);
        DUE.is("the eye sees by then", 3, x.floor(4, 1));
        DUE.is("and not ahead", 2, x.floor(3, 1));
        DUE.is("seconds 301", -1, x.floor(301, 0));
        DUE.is("seconds -1", -1, x.floor(-1, 0));
        DUE.is("what 3", -1, x.floor(1, 3));
        DUE.is("what -1", -1, x.floor(1, -1));
        // Of as much worth the least shown, though later: worth 0 tells nothing of 0, which is shown.
        WrongHole y = Due.worn("row 2 2;worth 0 0;worth 1 0;eye 0 0 0");
        DUE.is("worth", 0, y.floor(9, 0));
        DUE.is("least shown", 0, y.floor(9, 1));
        DUE.is("seconds", 2, y.floor(9, 2));
        // 0 and 1 may not be open with 2: by 6 one goes right behind the other.
        WrongHole z = Due.worn("row 3 3;in 0 1;in 1 2;beside 2;worth 1 9");
        DUE.is("with beside 2", 1, z.floor(5, 0));
        DUE.is("with beside 2", 10, z.floor(6, 0));
        DUE.is("without", 9, Due.worn("row 3 3;in 0 1;in 1 2;worth 1 9").floor(5, 0));
        DUE.is("laws hold", 0, Due.worn("row 2 2;in 0 1;never 0;eye 0 1 0").floor(300, 0));
    }

    private static void goes() {
        WrongHole x = Due.worn("row 8 8;in 0 1;in 1 2;in 2 3;in 3 5;in 4 6;in 6 7");
        // 0 to 2 in 1 to 3, 3 and 4 in 5 and 6, 6 in 7: 5 is open between.
        int[] due = {6, 4, 3, 3, 3, 3, 3, 3};
        for (int n = 1; n <= 8; n++) {
            DUE.is("goes(" + n + ")", due[n - 1], x.goes(n));
        }
        DUE.is("goes(0)", -1, x.goes(0));
        DUE.is("goes(9)", -1, x.goes(9));
        DUE.is("goes(-1)", -1, x.goes(-1));
        DUE.is("none wrong", 0, Due.worn("row 3 3;in 1 1").goes(1));
        DUE.is("right ones are of no stretch", 1, Due.worn("row 4 5;in 0 0;in 1 1;in 2 3;in 3 4").goes(2));
        DUE.is("all in one", 2, Due.worn("row 5 6;in 0 1;in 1 2;in 2 3;in 3 4;in 4 5").goes(4));
    }

    private static void child() {
        WrongHole x = Due.worn(HIGH);
        // 3 seconds of undoing, 8 of doing.
        fraction(x, 1, 1, 11, 1);
        fraction(x, 1, 2, 19, 1);
        fraction(x, 2, 3, 15, 1);
        fraction(x, 3, 5, 49, 3);
        fraction(x, 7, 9, 93, 7);
        fraction(x, 9, 9, 11, 1);
        fraction(Due.worn("row 1 1;in 0 0"), 3, 4, 0, 1);
        fraction(Due.worn("row 1 1;do 0 5;tie 1 1"), 4, 6, 9, 1);
        int[][] wrong = {{0, 1, 0}, {1, 10, 0}, {3, 2, 0}, {1, 0, 0}, {-1, 1, 0}, {1, 2, 2}, {1, 2, -1}, {10, 10, 0}};
        for (int[] w : wrong) {
            DUE.is("child(" + w[0] + ", " + w[1] + ", " + w[2] + ")", -1, x.child(w[0], w[1], w[2]));
        }
    }

    private static void fraction(WrongHole x, int a, int b, int above, int below) {
        DUE.is("child(" + a + ", " + b + ", 0)", above, x.child(a, b, 0));
        DUE.is("child(" + a + ", " + b + ", 1)", below, x.child(a, b, 1));
    }

    private static void spare() {
        WrongHole x = Due.worn("row 3 3;sort 0 1;worth 0 7;gone 0;worth 1 3;worth 2 3;sort 1 1;sort 2 1;never 1");
        DUE.is("of several the greatest number", 2, x.spare(0, 0));
        DUE.is("what is won", 4, x.spare(0, 1));
        DUE.is("not gone", -1, x.spare(1, 0));
        DUE.is("button 3", -1, x.spare(3, 0));
        DUE.is("button -1", -1, x.spare(-1, 0));
        DUE.is("what 2", -1, x.spare(0, 2));
        DUE.is("what -1", -1, x.spare(0, -1));
        WrongHole y = Due.worn("row 5 5;gone 0;worth 0 5;sort 1 1;worth 1 0;gone 2;worth 2 1;worth 3 4;worth 4 5");
        DUE.is("not of another sort, not gone, below its own", 3, y.spare(0, 0));
        DUE.is("won", 1, y.spare(0, 1));
        DUE.is("none below its own", -2, y.spare(2, 0));
        DUE.is("none below its own", -2, y.spare(2, 1));
        WrongHole z = Due.worn("row 4 4;gone 3;worth 3 9;worth 0 2;worth 1 1;worth 2 3;in 1 1");
        DUE.is("the least worth, in or open", 1, z.spare(3, 0));
        DUE.is("won", 8, z.spare(3, 1));
    }

    private static void nothingChanges() {
        WrongHole x = Due.worn(HIGH);
        x.waits(3);
        x.seed(5);
        x.soonest();
        x.step(3, 1);
        x.floor(50, 2);
        x.child(1, 2, 0);
        x.fewest(0);
        x.ways(1);
        x.dressed(3, 9, 0);
        DUE.is("clock", 3, x.count(4));
        DUE.is("x", 5, x.count(10));
        DUE.is("taken back", 1, x.count(5));
        DUE.is("wrong", 3, x.row(1));
        // What can be is kept for a row and a clock: another row at the same second has its own.
        x.takeBack();
        x.unfasten(0);
        DUE.is("floor with 0 undone", 1, x.floor(2, 0));
        x.takeBack();
        x.unfasten(1);
        DUE.is("floor with 1 undone", 0, x.floor(2, 0));
        x.takeBack();
        // Ways are kept for a lift: another one has its own.
        DUE.is("soonest", 11, x.soonest());
        Due.lift(x, "row 2 2;do 1 7");
        DUE.is("soonest of another lift", 9, x.soonest());
        Due.lift(x, "row 8 8");
        DUE.is("soonest of a greater one", 16, x.soonest());
        DUE.is("floor of a greater one", 5, x.floor(10, 0));
        Due.lift(x, "row 8 3");
        DUE.is("soonest with other holes", 6, x.soonest());
        DUE.is("floor with other holes", 3, x.floor(10, 0));
        Due.lift(x, "row 1 1");
        DUE.is("soonest of a less one", 2, x.soonest());
        DUE.is("floor of a less one", 1, x.floor(10, 0));
    }
}
