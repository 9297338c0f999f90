/** Promises 6 to 16: what is in what, and acts by hand and by rules. */
public final class RowTest {
    private static final Due DUE = new Due();
    /** Buttoned one too high. */
    private static final String HIGH = "row 4 4;in 0 1;in 1 2;in 2 3";

    public static void main(String[] args) {
        button();
        hole();
        row();
        shown();
        unfasten();
        fasten();
        waits();
        takeBack();
        run();
        runEnds();
        ruleWords();
        ruleSums();
        may();
        act();
        DUE.close();
    }

    private static void button() {
        WrongHole x = Due.worn("row 4 3;sort 1 2;takes 2 2;gone 2;in 0 1;undo 0 3;do 0 4;tie 2 5;worth 0 0"
                + ";eye 0 1 0;eye 0 0 7;eye 1 3 0");
        int[][] due = {
            {1, 0, 0, 8, 9, 0, 1, 1}, {-1, 2, 0, 6, 7, 1, 2, 0}, {-1, 0, 1, 1, 2, 1, 1, 0}, {-1, 0, 0, 1, 2, 1, 1, 0}};
        for (int b = 0; b < 4; b++) {
            for (int what = 0; what < 8; what++) {
                DUE.is("button(" + b + ", " + what + ")", due[b][what], x.button(b, what));
            }
        }
        DUE.is("button 4", -2, x.button(4, 0));
        DUE.is("button -1", -2, x.button(-1, 0));
        DUE.is("what 8", -2, x.button(0, 8));
        DUE.is("what -1", -2, x.button(0, -1));
        x.waits(6);
        DUE.is("seen ahead of the second", 1, x.button(0, 6));
        x.waits(1);
        DUE.is("seen from the second on", 2, x.button(0, 6));
        WrongHole y = Due.worn("row 3 3;sewn 0;takes 1 1;sort 2 3;takes 2 3");
        DUE.is("its hole is sewn", 0, y.button(0, 7));
        DUE.is("its hole takes another sort", 0, y.button(1, 7));
        DUE.is("of one sort", 1, y.button(2, 7));
    }

    private static void hole() {
        WrongHole x = Due.worn("row 4 3;sewn 2;takes 0 3;in 3 1");
        DUE.is("in hole 1", 3, x.hole(1, 0));
        DUE.is("in hole 0", -1, x.hole(0, 0));
        DUE.is("hole 0 takes", 3, x.hole(0, 1));
        DUE.is("hole 1 takes", 0, x.hole(1, 1));
        DUE.is("hole 2 is sewn", 1, x.hole(2, 2));
        DUE.is("hole 1 is sewn", 0, x.hole(1, 2));
        DUE.is("hole 3", -2, x.hole(3, 0));
        DUE.is("hole -1", -2, x.hole(-1, 0));
        DUE.is("what 3", -2, x.hole(0, 3));
        DUE.is("what -1", -2, x.hole(0, -1));
    }

    private static void row() {
        WrongHole x = Due.worn("row 7 8;gone 3;in 0 0;in 1 2;in 5 5;beside 3");
        int[] due = {4, 1, 2, 3, 1, 0, -1};
        for (int what = 0; what < due.length; what++) {
            DUE.is("row(" + what + ")", due[what], x.row(what));
        }
        DUE.is("row(-1)", -1, x.row(-1));
        DUE.is("four are open in a row", 0, Due.worn("row 5 5;in 0 0;beside 3").row(4));
        DUE.is("three are", 1, Due.worn("row 5 5;in 2 2;beside 3").row(4));
        DUE.is("never open", 0, Due.worn("row 2 2;never 1;in 0 0").row(4));
        DUE.is("not open", 1, Due.worn("row 2 2;never 1;in 1 1").row(4));
        DUE.is("one that is gone is open", 0, Due.worn("row 2 2;never 1;gone 1").row(4));
        DUE.is("goal", 1, Due.worn("row 3 2;gone 0;in 1 1").row(5));
        DUE.is("goal with another one wrong", 1, Due.worn("row 3 4;sewn 0;takes 2 1;takes 3 0;in 1 1;in 2 3").row(5));
        DUE.is("no goal", 0, Due.worn("row 3 2;in 1 1").row(5));
    }

    private static void shown() {
        WrongHole x = Due.worn("row 5 5;in 0 0;in 1 2;in 4 4;eye 0 4 0;eye 0 2 10;eye 0 0 10;eye 3 3 999");
        DUE.is("shown(0)", 3, x.shown(0));
        DUE.is("shown(9)", 3, x.shown(9));
        DUE.is("shown(10)", 5, x.shown(10));
        DUE.is("shown(9999)", 6, x.shown(9999));
        DUE.is("shown(10000)", -1, x.shown(10000));
        DUE.is("shown(-1)", -1, x.shown(-1));
        x.waits(999);
        DUE.is("whatever the clock", 3, x.shown(0));
        DUE.is("without eyes", 0, Due.worn("row 5 5").shown(5));
    }

    private static void unfasten() {
        WrongHole x = Due.worn(HIGH + ";undo 1 4;tie 2 3;beside 2;never 0");
        DUE.is("never open", -1, x.unfasten(0));
        DUE.is("undone", 7, x.unfasten(1));
        DUE.is("open", -1, x.button(1, 0));
        DUE.is("empty", -1, x.hole(2, 0));
        DUE.is("three in a row", -1, x.unfasten(2));
        DUE.is("it is open", -1, x.unfasten(1));
        DUE.is("button 4", -1, x.unfasten(4));
        DUE.is("button -1", -1, x.unfasten(-1));
        DUE.is("clock", 7, x.count(4));
        DUE.is("taken back", 1, x.count(5));
        WrongHole y = Due.worn("row 1 1;in 0 0;undo 0 20;tie 1 20");
        for (int i = 0; i < 9; i++) {
            y.waits(999);
        }
        y.waits(969);
        DUE.is("above 9999", -1, y.unfasten(0));
        DUE.is("still in", 0, y.button(0, 0));
        y.takeBack();
        y.waits(968);
        DUE.is("9999", 9999, y.unfasten(0));
        WrongHole z = Due.worn("row 2 2;gone 1;never 1;in 0 0");
        DUE.is("not lawful behind it, ahead neither", -1, z.unfasten(0));
    }

    private static void fasten() {
        WrongHole x = Due.worn("row 5 5;gone 0;sewn 3;sort 1 1;takes 4 1;in 2 2;do 4 5;tie 5 2");
        DUE.is("gone", -1, x.fasten(0, 0));
        DUE.is("another sort", -1, x.fasten(1, 1));
        DUE.is("of its sort, not rising", -1, x.fasten(1, 4));
        DUE.is("sewn", -1, x.fasten(3, 3));
        DUE.is("it is in", -1, x.fasten(2, 1));
        DUE.is("one is there", -1, x.fasten(3, 2));
        DUE.is("not rising", -1, x.fasten(4, 1));
        DUE.is("button 5", -1, x.fasten(5, 0));
        DUE.is("button -1", -1, x.fasten(-1, 0));
        DUE.is("hole 5", -1, x.fasten(4, 5));
        DUE.is("hole -1", -1, x.fasten(4, -1));
        DUE.is("nothing happened", 0, x.count(4) + x.count(5));
        x.unfasten(2);
        DUE.is("done", 10, x.fasten(4, 2));
        DUE.is("it is there", 2, x.button(4, 0));
        DUE.is("one of them", 4, x.hole(2, 0));
        WrongHole y = Due.worn("row 3 3;beside 1");
        DUE.is("not lawful behind it", -1, y.fasten(0, 0));
        DUE.is("lawful behind it, not ahead", 2, y.fasten(1, 1));
        WrongHole z = Due.worn("row 1 2;do 0 1");
        for (int i = 0; i < 10; i++) {
            z.waits(999);
        }
        z.waits(9);
        DUE.is("9999", 9999, z.count(4));
        DUE.is("above 9999", -1, z.fasten(0, 0));
    }

    private static void waits() {
        WrongHole x = Due.worn("row 1 1");
        DUE.is("waits(0)", -1, x.waits(0));
        DUE.is("waits(-5)", -1, x.waits(-5));
        DUE.is("waits(1000)", -1, x.waits(1000));
        DUE.is("waits(1)", 1, x.waits(1));
        for (int i = 1; i <= 10; i++) {
            DUE.is("waits(999)", 1 + 999 * i, x.waits(999));
        }
        DUE.is("above 9999", -1, x.waits(9));
        DUE.is("9999", 9999, x.waits(8));
        DUE.is("taken back", 12, x.count(5));
    }

    private static void takeBack() {
        WrongHole x = Due.worn(HIGH);
        x.unfasten(0);
        x.waits(5);
        x.fasten(0, 0);
        DUE.is("clock", 8, x.count(4));
        DUE.is("takeBack", 2, x.takeBack());
        DUE.is("open", -1, x.button(0, 0));
        DUE.is("clock", 6, x.count(4));
        DUE.is("takeBack", 1, x.takeBack());
        DUE.is("clock", 1, x.count(4));
        DUE.is("takeBack", 0, x.takeBack());
        DUE.is("in", 1, x.button(0, 0));
        DUE.is("clock", 0, x.count(4));
        DUE.is("none can", -1, x.takeBack());
        for (int i = 0; i < 25; i++) {
            x.waits(1);
        }
        DUE.is("the last 20", 20, x.count(5));
        for (int i = 19; i >= 0; i--) {
            DUE.is("takeBack", i, x.takeBack());
        }
        DUE.is("none can", -1, x.takeBack());
        DUE.is("clock", 5, x.count(4));
    }

    private static void run() {
        WrongHole x = Due.worn(HIGH);
        Due.rule(x, "act 9 if done = 1 and right = 1;act 5 - button if done = 0 and right = 0");
        Due.rule(x, "act 0");
        x.waits(1);
        DUE.is("rule 2", -1, x.run(2, 1));
        DUE.is("rule -1", -1, x.run(-1, 1));
        DUE.is("n 0", -1, x.run(0, 0));
        DUE.is("n 61", -1, x.run(0, 61));
        DUE.is("nothing above 0", 0, x.run(1, 60));
        DUE.is("no act, all can be taken back", 1, x.count(5));
        // Of all at 9 the first: undo 0, do 0 right, do 3 right is barred by 2 in 3.
        DUE.is("two acts", 2, x.run(0, 2));
        DUE.is("0 is right", 0, x.button(0, 0));
        DUE.is("clock", 4, x.count(4));
        DUE.is("nothing can be taken back", -1, x.takeBack());
        DUE.is("until it is over", 5, x.run(0, 60));
        DUE.is("all right", 4, x.row(2));
        DUE.is("clock", 12, x.count(4));
        DUE.is("over", 0, x.run(0, 1));
    }

    private static void runEnds() {
        WrongHole x = Due.worn("row 1 1;undo 0 20;do 0 20;tie 1 20");
        Due.rule(x, "act 1");
        for (int i = 0; i < 9; i++) {
            x.waits(999);
        }
        x.waits(900);
        DUE.is("2 acts of 40 from 9891 on", 2, x.run(0, 60));
        DUE.is("clock", 9971, x.count(4));
        DUE.is("over", 0, x.run(0, 60));
        WrongHole y = Due.worn("row 2 2;in 0 1");
        Due.rule(y, "act 7 if done = 1;act 7");
        DUE.is("of several the first: undoing", 1, y.run(0, 1));
        DUE.is("undone", -1, y.button(0, 0));
        DUE.is("then doing by buttons, then holes", 1, y.run(0, 1));
        DUE.is("0 into 0", 0, y.button(0, 0));
        WrongHole z = Due.worn("row 2 2;in 0 0;in 1 1;beside 1");
        Due.rule(z, "act 1 if done = 0");
        DUE.is("only what may be", 1, z.run(0, 9));
        DUE.is("one is in", 1, z.button(1, 0));
    }

    /** With the rule the one act of this row must come, and with that one more it must not. */
    private static void word(String test, int same) {
        WrongHole x = Due.worn("row 6 8;in 1 3;in 2 4;in 4 7;gone 0;sewn 0;sewn 1;sewn 2;sewn 5;sewn 6"
                + ";never 2;never 4;do 5 1;undo 1 4;tie 2 3;worth 1 44;eye 0 1 0;eye 1 3 5;eye 1 1 6;beside 2");
        x.waits(5);
        DUE.is("acts", 1, x.may());
        Due.rule(x, "act 1 if " + test + " = " + same);
        Due.rule(x, "act 1 if " + test + " < " + same + " or " + test + ">" + same);
        DUE.is(test + " is another", 0, x.run(1, 1));
        DUE.is(test + " is " + same, 1, x.run(0, 1));
    }

    private static void ruleWords() {
        word("done", 0);
        word("button", 1);
        word("hole", 3);
        word("right", 0);
        word("open", 3);
        word("wrong", 3);
        word("run", 1);
        word("after", 2);
        word("seconds", 7);
        word("clock", 5);
        word("seen", 2);
        word("worth", 44);
        WrongHole x = Due.worn("row 1 1");
        Due.rule(x, "act 1 if done = 1 and right = 1 and after = 0 and run = 1 and hole = 0");
        DUE.is("a doing that is right", 1, x.run(0, 1));
        Due.rule(x, "act 1 if done = 0 and right = 1 and after = 1 and run = 0");
        DUE.is("an undoing", 1, x.run(1, 1));
    }

    private static void holds(boolean due, String test) {
        WrongHole x = Due.worn("row 1 1");
        Due.rule(x, "act 1 if " + test);
        DUE.is(test, due ? 1 : 0, x.run(0, 1));
    }

    private static void sum(int due, String sum) {
        holds(true, sum + " = " + due);
    }

    private static void ruleSums() {
        sum(7, "1+2*3");
        sum(5, "10-2-3");
        sum(3, "20/3/2");
        sum(2, "20%6");
        sum(8, "20%6*4");
        sum(0, "7/0");
        sum(0, "7%0");
        sum(14, "2*3+4*2");
        holds(true, "0-7/2 = 0-3");
        holds(true, "open*0-7+7 = 0");
        holds(true, "1-4 < 0");
        holds(true, "99999*99999*99999*99999 > 0-1");
        // 99999 to the fourth is 99996000059999600001: of 2 to the 64th it leaves 7762279691451841921.
        holds(true, "99999*99999*99999*99999/99999/99999/99999 = 7762");
        holds(false, "1 < 1");
        holds(true, "1 <= 1");
        holds(true, "1 >= 1");
        holds(false, "1 > 1");
        holds(false, "2 <= 1");
        holds(false, "1 >= 2");
        holds(true, "1=1 or 1=2 and 1=2");
        holds(false, "[1=1 or 1=2] and 1=2");
        holds(true, "1=2 and 1=2 or 1=1");
        holds(false, "not 1=1 or 1=2");
        holds(true, "not 1=2 and 1=1");
        holds(true, "not [1=1 and 1=2]");
        holds(true, "not not 1=1");
        holds(false, "not not not 1=1");
        WrongHole x = Due.worn("row 2 2");
        Due.rule(x, "act 0 if button = 0;act 3 if hole = 1;act 1");
        DUE.is("the first clause that holds counts", 1, x.run(0, 1));
        DUE.is("1 into 1", 1, x.button(1, 0));
        Due.rule(x, "act 5 - 9;act 100");
        DUE.is("below 0", 0, x.run(1, 1));
        Due.rule(x, "act 5 if 1=2");
        DUE.is("0 without a clause", 0, x.run(2, 1));
    }

    private static void may() {
        DUE.is("all into all", 64, Due.worn("row 8 8").may());
        DUE.is("by laws", 2, Due.worn("row 3 2;beside 1").may());
        DUE.is("none", 0, Due.worn("row 2 2;gone 0;never 0").may());
        WrongHole x = Due.worn(HIGH);
        // Undo 0, 1, 2; 3 has no hole.
        DUE.is("may", 3, x.may());
        x.unfasten(2);
        // Undo 0, 1; 2 into 3; 3 into 3.
        DUE.is("may", 4, x.may());
        WrongHole y = Due.worn("row 1 1;in 0 0;undo 0 20;tie 1 20");
        for (int i = 0; i < 10; i++) {
            y.waits(999);
        }
        DUE.is("may is not asked of the clock", 1, y.may());
    }

    private static void act() {
        WrongHole x = Due.worn("row 3 4;in 0 0;in 2 3");
        int[][] due = {{0, 0, 0}, {0, 2, 3}, {1, 1, 1}, {1, 1, 2}};
        for (int k = 0; k < due.length; k++) {
            for (int what = 0; what < 3; what++) {
                DUE.is("act(" + k + ", " + what + ")", due[k][what], x.act(k, what));
            }
        }
        DUE.is("act 4", -1, x.act(4, 0));
        DUE.is("act -1", -1, x.act(-1, 0));
        DUE.is("what 3", -1, x.act(0, 3));
        DUE.is("what -1", -1, x.act(0, -1));
    }
}
