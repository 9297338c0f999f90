/** Promises 1 to 5: a new object, the tape, the lift and the rules with their faults. */
public final class TapeTest {
    private static final Due DUE = new Due();

    public static void main(String[] args) {
        newObject();
        feeding();
        ending();
        lifts();
        liftFaults();
        liftLimits();
        toldTwice();
        rules();
        ruleFaults();
        ruleLimits();
        DUE.close();
    }

    private static void newObject() {
        WrongHole x = new WrongHole();
        int[] counts = {0, 0, 0, 0, 0, 0, -1, 0, 0, 10, 0, 0, -1};
        for (int i = 0; i < counts.length; i++) {
            DUE.is("count(" + i + ")", counts[i], x.count(i));
        }
        DUE.is("count(-1)", -1, x.count(-1));
        DUE.is("button", -2, x.button(0, 0));
        DUE.is("hole", -2, x.hole(0, 0));
        DUE.is("row", -1, x.row(0));
        DUE.is("shown", -1, x.shown(0));
        DUE.is("unfasten", -1, x.unfasten(0));
        DUE.is("fasten", -1, x.fasten(0, 0));
        DUE.is("waits", -1, x.waits(1));
        DUE.is("takeBack", -1, x.takeBack());
        DUE.is("rule", 0, Due.rule(x, "act 1"));
        DUE.is("run", -1, x.run(0, 1));
        DUE.is("may", -1, x.may());
        DUE.is("act", -1, x.act(0, 0));
        DUE.is("fewest", -1, x.fewest(0));
        DUE.is("soonest", -1, x.soonest());
        DUE.is("step", -1, x.step(0, 0));
        DUE.is("floor", -1, x.floor(0, 0));
        DUE.is("goes", -1, x.goes(1));
        DUE.is("child", -1, x.child(1, 1, 0));
        DUE.is("spare", -1, x.spare(0, 0));
        DUE.is("crease", -2, x.crease(0, 0, 0));
        DUE.is("crease NONE", 0, x.crease(-1, 0, 0));
        DUE.is("ways", -1, x.ways(0));
        DUE.is("dressed", -1, x.dressed(1, 1, 0));
    }

    private static void feeding() {
        WrongHole x = new WrongHole();
        for (int i = 1; i <= 20; i++) {
            DUE.is("feed " + i, 20 * i, x.feed(-1, 0, 1, i, Integer.MIN_VALUE));
        }
        DUE.is("feed above 400", -1, x.feed(0, 0, 0, 0, 0));
        DUE.is("bytes", 400, x.count(11));
        DUE.is("end(381)", 381, x.end(381));
        DUE.is("feed at 381", -1, x.feed(0, 0, 0, 0, 0));
        DUE.is("bytes", 381, x.count(11));
        DUE.is("end(380)", 380, x.end(380));
        DUE.is("feed at 380", 400, x.feed(0, 0, 0, 0, 0));
        // "row " "3 2;" "gone" " 1;s" "ewn0": of each number the highest byte first.
        WrongHole y = new WrongHole();
        y.feed(0x726f7720, 0x3320323b, 0x676f6e65, 0x20313b73, 0x65776e30);
        DUE.is("lift", 3, y.lift());
        DUE.is("gone 1", 1, y.button(1, 2));
        DUE.is("sewn 0", 1, y.hole(0, 2));
    }

    private static void ending() {
        WrongHole x = new WrongHole();
        DUE.is("end(0)", 0, x.end(0));
        DUE.is("end(1)", -1, x.end(1));
        x.feed(1, 2, 3, 4, 5);
        DUE.is("end(-1)", -1, x.end(-1));
        DUE.is("end(21)", -1, x.end(21));
        DUE.is("bytes", 20, x.count(11));
        DUE.is("end(20)", 20, x.end(20));
        DUE.is("end(7)", 7, x.end(7));
        DUE.is("end(8)", -1, x.end(8));
        DUE.is("bytes", 7, x.count(11));
        DUE.is("feed", 27, x.feed(1, 2, 3, 4, 5));
    }

    private static void lifts() {
        WrongHole x = new WrongHole();
        x.seat(3, 4);
        x.seed(17);
        DUE.is("lift", 4, Due.lift(x, "row 4 5;in 0 1;in 1 2;beside 3;never 2;never 0;eye 0 1 0"));
        DUE.is("bytes", 0, x.count(11));
        DUE.is("buttons", 4, x.count(0));
        DUE.is("holes", 5, x.count(1));
        DUE.is("eyes", 1, x.count(3));
        DUE.is("beside", 3, x.count(6));
        DUE.is("never", 5, x.count(7));
        x.waits(9);
        x.crease(0, 0, 0);
        DUE.is("fault", Due.fault(7, 0), Due.lift(x, "row 1 1x"));
        DUE.is("the tape stays", 8, x.count(11));
        DUE.is("the lift stays", 4, x.count(0));
        DUE.is("the clock stays", 9, x.count(4));
        DUE.is("the crease stays", 1, x.count(8));
        DUE.is("what can be taken back stays", 1, x.count(5));
        DUE.is("lift", 2, Due.lift(x, "row 2 3"));
        DUE.is("buttons", 2, x.count(0));
        DUE.is("holes", 3, x.count(1));
        DUE.is("eyes", 0, x.count(3));
        DUE.is("clock", 0, x.count(4));
        DUE.is("creases", 0, x.count(8));
        DUE.is("taken back", 0, x.count(5));
        DUE.is("takeBack", -1, x.takeBack());
        DUE.is("beside", 8, x.count(6));
        DUE.is("never", 0, x.count(7));
        DUE.is("seats stay", 9, x.count(9));
        DUE.is("x stays", 17, x.count(10));
        DUE.is("blanks as one likes", 3, Due.lift(x, "  row3 4  ;in0 0;tie  8 20;eye 2 2 999;worth 0 00099 "));
        DUE.is("in", 0, x.button(0, 0));
        DUE.is("worth", 99, x.button(0, 5));
        DUE.is("undo with the tie", 21, x.button(2, 3));
    }

    private static void fault(String text, int place, int kind) {
        WrongHole x = new WrongHole();
        DUE.is("lift of " + text, Due.fault(place, kind), Due.lift(x, text));
        DUE.is("no lift of " + text, 0, x.count(0));
    }

    private static void liftFaults() {
        fault("", 0, 0);
        fault("  ", 2, 0);
        fault("row", 3, 0);
        fault("row 2", 5, 0);
        fault("row 0 1", 4, 1);
        fault("row 9 1", 4, 1);
        fault("row 1 9", 6, 1);
        fault("row 000001 1", 4, 1);
        fault("row 22", 4, 1);
        fault("rows 2 2", 0, 0);
        fault("Row 2 2", 0, 0);
        fault("row x 2", 4, 0);
        fault("row 2 2;", 8, 0);
        fault("row 2 2;  ", 10, 0);
        fault("row 2 2;;", 8, 0);
        fault("row 2 2 2", 8, 0);
        fault("row 2 2\0", 7, 0);
        fault("row 2 2\u00e9", 7, 0);
        fault("gone 0", 0, 4);
        fault(" beside 1", 1, 4);
        fault("row 2 2;row 2 2", 8, 4);
        fault("row 2 2;gone 2", 13, 1);
        fault("row 2 2;gone -1", 13, 0);
        fault("row 2 2;gone", 12, 0);
        fault("row 2 2;sewn 2", 13, 1);
        fault("row 2 2;sort 0 4", 15, 1);
        fault("row 2 2;sort 2 4", 13, 1);
        fault("row 2 2;takes 0 4", 16, 1);
        fault("row 2 2;takes 2 0", 14, 1);
        fault("row 2 2;in 0 2", 13, 1);
        fault("row 2 2;in 2 0", 11, 1);
        fault("row 2 2;in 0 1;in 1 0", 20, 1);
        fault("row 2 2;in 0 1;in 1 1", 20, 1);
        fault("row 2 2;in 0 0;in 0 1", 18, 1);
        fault("row 2 2;in 0 0;gone 0", 20, 1);
        fault("row 2 2;in 0 1;sewn 1", 20, 1);
        fault("row 2 2;in 0 0;sort 0 1", 20, 1);
        fault("row 2 2;in 0 1;takes 1 0", 21, 1);
        fault("row 2 2;gone 0;in 0 0", 20, 1);
        fault("row 2 2;sewn 1;in 0 1", 20, 1);
        fault("row 2 2;sort 0 1;in 0 1", 22, 1);
        fault("row 2 2;takes 1 2;in 0 1", 23, 1);
        fault("row 2 2;undo 0 0", 15, 1);
        fault("row 2 2;undo 2 1", 13, 1);
        fault("row 2 2;undo 0 21", 15, 1);
        fault("row 2 2;do 0 0", 13, 1);
        fault("row 2 2;do 0 21", 13, 1);
        fault("row 2 2;do 2 2", 11, 1);
        fault("row 2 2;tie 0 1", 12, 1);
        fault("row 2 2;tie 9 1", 12, 1);
        fault("row 2 2;tie 1 0", 14, 1);
        fault("row 2 2;tie 1 21", 14, 1);
        fault("row 2 2;tie 1 1;tie 1 1", 16, 4);
        fault("row 2 2;beside 0", 15, 1);
        fault("row 2 2;beside 9", 15, 1);
        fault("row 2 2;beside 1;beside 2", 17, 4);
        fault("row 2 2;never 2", 14, 1);
        fault("row 2 2;worth 0 100", 16, 1);
        fault("row 2 2;worth 2 1", 14, 1);
        fault("row 2 2;eye 1 0 0", 14, 1);
        fault("row 2 2;eye 2 2 0", 12, 1);
        fault("row 2 2;eye 0 2 0", 14, 1);
        fault("row 2 2;eye 0 0 1000", 16, 1);
        fault("row 2 2;eye 0 0", 15, 0);
        fault("row 2 2;sit 0", 8, 0);
        fault("row 2 2;gone 2;sit", 13, 1);
    }

    private static void liftLimits() {
        fault("row 2 2" + ";eye 0 0 1".repeat(6) + "; eye x", 69, 4);
        DUE.is("six eyes", 6, Due.worn("row 2 2" + ";eye 0 0 1".repeat(6)).count(3));
        DUE.is("forty clauses", 255, Due.worn("row 8 8" + ";never 7".repeat(31)
                + ";never 0;never 1;never 2;never 3;never 4;never 5;never 6;tie 1 1").count(7));
        fault("row 8 8" + ";never 7".repeat(40), 7 + 8 * 39 + 1, 4);
        fault("row 8 8" + ";never 7".repeat(39) + ";nix", 7 + 8 * 39 + 1, 0);
        fault("row 8 8" + ";never 7".repeat(39) + ";", 7 + 8 * 39 + 1, 0);
        DUE.is("400 bytes", 1, Due.worn("row 1 1" + " ".repeat(393)).count(0));
        DUE.is("five digits", 7, Due.worn("row 00007 00008").count(0));
    }

    private static void toldTwice() {
        WrongHole x = Due.worn("row 3 3;undo 0 5;undo 0 7;do 1 9;do 1 3;worth 2 8;worth 2 0;sort 1 3;sort 1 2"
                + ";takes 2 1;takes 2 3;gone 0;gone 0;in 2 0;undo 2 4;do 2 6;worth 2 7;never 2");
        DUE.is("undo 0", 7, x.button(0, 3));
        DUE.is("do 1", 3, x.button(1, 4));
        DUE.is("worth 2", 7, x.button(2, 5));
        DUE.is("sort 1", 2, x.button(1, 1));
        DUE.is("takes 2", 3, x.hole(2, 1));
        DUE.is("gone 0", 1, x.button(0, 2));
        DUE.is("undo 2", 4, x.button(2, 3));
        DUE.is("do 2", 6, x.button(2, 4));
        DUE.is("undo 1", 1, x.button(1, 3));
        DUE.is("do 0", 2, x.button(0, 4));
        DUE.is("worth 0", 1, x.button(0, 5));
        DUE.is("sort 0", 0, x.button(0, 1));
        DUE.is("takes 0", 0, x.hole(0, 1));
    }

    private static void rules() {
        WrongHole x = new WrongHole();
        for (int i = 0; i < 6; i++) {
            DUE.is("rule " + i, i, Due.rule(x, "act 1 if [ not 1<=2 or open >=wrong] and run<after;act 99999%seen"));
            DUE.is("bytes", 0, x.count(11));
        }
        DUE.is("rules", 6, x.count(2));
        DUE.is("a seventh", -1, Due.rule(x, "act 1"));
        DUE.is("bytes stay", 5, x.count(11));
        DUE.is("a faulty seventh", -1, Due.rule(x, "bat"));
        DUE.is("rules stay with a lift", 6, Due.lift(x, "row 1 1") * x.count(2));
        WrongHole y = new WrongHole();
        DUE.is("fault", Due.fault(3, 0), Due.rule(y, "act"));
        DUE.is("no rule", 0, y.count(2));
        DUE.is("the tape is empty then", 0, y.count(11));
    }

    private static void badRule(String text, int place, int kind) {
        DUE.is("rule of " + text, Due.fault(place, kind), Due.rule(new WrongHole(), text));
    }

    private static void goodRule(String text) {
        DUE.is("rule of " + text, 0, Due.rule(new WrongHole(), text));
    }

    private static void ruleFaults() {
        badRule("", 0, 0);
        badRule("act", 3, 0);
        badRule("acts 1", 0, 0);
        badRule("actz 1", 0, 0);
        badRule("act 1{", 5, 0);
        badRule("act 1`", 5, 0);
        badRule("act 1:", 5, 0);
        badRule("row 2 2", 0, 0);
        badRule("act x", 4, 0);
        badRule("act 1;", 6, 0);
        badRule("act 1 if", 8, 0);
        badRule("act 1 if ", 9, 0);
        badRule("act 1 if open", 13, 0);
        badRule("act 1 if open =", 15, 0);
        badRule("act 1 if open = 1]", 17, 0);
        badRule("act 1 if [open = 1", 18, 0);
        badRule("act 1 if [open]", 14, 0);
        badRule("act 1 if open < = 1", 16, 0);
        badRule("act 1 if open => 1", 15, 0);
        badRule("act 1 if open = 1 = 1", 18, 0);
        badRule("act 1 if not", 12, 0);
        badRule("act 1 if open = 1 and", 21, 0);
        badRule("act 1 if open = 1 or or", 21, 0);
        badRule("act 1 ifopen = 1", 6, 0);
        badRule("act 1 if open = 1 if open = 1", 18, 0);
        badRule("act 5 %", 7, 0);
        badRule("act - 1", 4, 0);
        badRule("act [1]", 4, 0);
        badRule("act 1 1", 6, 0);
        badRule("act 1 1234567", 6, 0);
        badRule("act 123456", 4, 1);
        badRule("act 1 + 000000", 8, 1);
        badRule("act donee", 4, 0);
        badRule("act\0", 3, 0);
        goodRule("act1if1=1or1<2and 2>1;act done+button-hole*right/open%wrong");
        goodRule(" act 00001 if not not 1 >= 1 ; act worth if [[seconds = clock]]");
    }

    private static void ruleLimits() {
        goodRule("act 1" + ";act 1".repeat(11));
        badRule("act 1" + ";act 1".repeat(12), 5 + 6 * 11 + 1, 4);
        badRule("act 1" + ";act 1".repeat(11) + ";bat", 5 + 6 * 11 + 1, 0);
        badRule("act 1" + ";act 1".repeat(11) + ";", 5 + 6 * 11 + 1, 0);
        goodRule("act 1" + "+1".repeat(59));
        badRule("act 1" + "+1".repeat(60), 5 + 2 * 59 + 1, 3);
        badRule("act 1" + "+1".repeat(59) + "+123456", 5 + 2 * 59 + 1, 1);
        badRule("act 1" + "+1".repeat(59) + "+x", 5 + 2 * 59 + 1, 0);
        badRule("act 1" + "+1".repeat(59) + "+open", 5 + 2 * 59 + 1, 3);
        // 1 and 19 times 3 are 58, two more values are 60: the next sign is one too many.
        badRule("act 1 if 1=1" + " or 1=1".repeat(18) + " or 1+1=1", 12 + 7 * 18 + 7, 3);
        badRule("act 1 if 1=1" + " or 1=1".repeat(18) + " or 1=1", 12 + 7 * 18 + 6, 3);
        goodRule("act 1+1+1 if 1=1" + " or 1=1".repeat(18));
        // Values and facts of all clauses are counted together.
        badRule("act 1" + "+1".repeat(29) + ";act 1" + "+1".repeat(30), 5 + 2 * 29 + 6 + 2 * 29 + 1, 3);
        goodRule("act 1 if " + "[".repeat(10) + "1=1" + "]".repeat(10));
        badRule("act 1 if " + "[".repeat(11) + "1=1" + "]".repeat(11), 19, 2);
        goodRule("act 1 if " + "not ".repeat(10) + "1=1");
        badRule("act 1 if " + "not ".repeat(11) + "1=1", 49, 2);
        badRule("act 1 if " + "not [".repeat(5) + "not 1=1" + "]".repeat(5), 34, 2);
        goodRule("act 1 if [[[[[[1=1]]]]]] and [[[[[[1=1]]]]]] and not not not not not not 1=1");
    }
}
