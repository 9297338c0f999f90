/**
 * Promises 2 to 4 and the LIFT of the Terms, boundary by boundary: the last that is taken, the first that is not.
 * A comment above a test is the sentence of the document that it holds to; a ^ marks where a fault is due.
 */
public final class LiftEdgeTest {
    private static final Due DUE = new Due();
    /** More holes than buttons, and more buttons than holes: so the two can't be taken for each other. */
    private static final String WIDE = "row 3 5;";
    private static final String LONG = "row 5 3;";
    private static final String[] SOUND = {"gone 0", "sewn 0", "sort 0 0", "takes 0 0", "in 0 0", "undo 0 1", "do 0 1",
        "tie 1 1", "beside 1", "never 0", "worth 0 0", "eye 0 0 0"};

    public static void main(String[] args) {
        tape();
        bytes();
        clauses();
        row();
        gone();
        sewn();
        sort();
        takes();
        inBounds();
        inCanBeSo();
        inTwice();
        undoAndDo();
        tie();
        beside();
        never();
        worth();
        eye();
        lastTold();
        without();
        notOfThoseThatAreIn();
        ofThoseThatAreIn();
        secondZero();
        words();
        numbers();
        blanksAndSigns();
        ends();
        firstAlongTheText();
        leastOfOnePlace();
        taken();
        faulty();
        DUE.close();
    }

    /** "NONE, and none comes, if it would have more than 400"; "NONE, .. if it has not so many, or n is below 0". */
    private static void tape() {
        WrongHole x = new WrongHole();
        DUE.is("end(0) of an empty tape", 0, x.end(0));
        DUE.is("end(1) of an empty tape", -1, x.end(1));
        DUE.is("end(-1) of an empty tape", -1, x.end(-1));
        DUE.is("end(MIN)", -1, x.end(Integer.MIN_VALUE));
        DUE.is("end(MAX)", -1, x.end(Integer.MAX_VALUE));
        for (int i = 20; i <= 380; i += 20) {
            DUE.is("feed", i, x.feed(0, 0, 0, 0, 0));
        }
        DUE.is("400 is not more than 400", 400, x.feed(0, 0, 0, 0, 0));
        DUE.is("420 is", -1, x.feed(0, 0, 0, 0, 0));
        DUE.is("none came", 400, x.count(11));
        DUE.is("end(401)", -1, x.end(401));
        DUE.is("end(400)", 400, x.end(400));
        DUE.is("end(381)", 381, x.end(381));
        DUE.is("401 is more than 400", -1, x.feed(0, 0, 0, 0, 0));
        DUE.is("none came", 381, x.count(11));
        DUE.is("end(382)", -1, x.end(382));
        DUE.is("end(380)", 380, x.end(380));
        DUE.is("400 again", 400, x.feed(0, 0, 0, 0, 0));
        DUE.is("end(0)", 0, x.end(0));
        DUE.is("20", 20, x.feed(0, 0, 0, 0, 0));
    }

    /** "Twenty bytes come behind the TAPE, of each number the highest first": each place, with the highest bit too. */
    private static void bytes() {
        for (int i = 0; i < 20; i++) {
            WrongHole x = new WrongHole();
            int[] f = new int[5];
            for (int j = 0; j < 20; j++) {
                f[j / 4] |= (j == i ? 0xe1 : ' ') << 24 - 8 * (j % 4);
            }
            x.feed(f[0], f[1], f[2], f[3], f[4]);
            DUE.is("a strange byte at " + i, Due.fault(i, 0), x.lift());
        }
        // What was cut off does not come again with later bytes.
        WrongHole y = new WrongHole();
        Due.tell(y, "row 1 1;never 0;beside 7");
        y.end(7);
        y.feed(0x3b6e6576, 0x65722030, 0x20202020, 0x20202020, 0x20202020);
        DUE.is("lift", 1, y.lift());
        DUE.is("never 0", 1, y.count(7));
        DUE.is("not beside 7", 8, y.count(6));
        // Nor does a number go on behind the end of the tape.
        WrongHole z = new WrongHole();
        Due.tell(z, "row 1 1;worth 0 123456");
        z.end(18);
        DUE.is("lift", 1, z.lift());
        DUE.is("worth 12", 12, z.button(0, 5));
    }

    /** "A LIFT is a text of at most 400 bytes: CLAUSE { ; CLAUSE }, 40 at most". */
    private static void clauses() {
        String full = "row 1 1" + " ".repeat(382) + ";worth 0 17";
        DUE.is("400 bytes", 400, full.length());
        DUE.is("the last of them counts", 17, Due.worn(full).button(0, 5));
        DUE.is("without it", 1, Due.worn(full.substring(0, 399)).button(0, 5));
        DUE.liftIs(8, "row 8 8" + ";never 7".repeat(38) + ";never 0");
        DUE.is("the fortieth counts", 129, Due.worn("row 8 8" + ";never 7".repeat(38) + ";never 0").count(7));
        DUE.liftFault(4, "row 8 8" + ";never 7".repeat(39) + ";^never 0");
        DUE.liftFault(4, "row 8 8" + ";never 7".repeat(39) + ";  ^beside 9");
        DUE.liftIs(1, "row 1 1");
    }

    /** "row NUMBER NUMBER (BUTTONS, HOLES, 1 to 8 each; once, the first CLAUSE)"; "another CLAUSE ahead of row". */
    private static void row() {
        for (int buttons = 1; buttons <= 8; buttons++) {
            for (int holes = 1; holes <= 8; holes += buttons == 1 || buttons == 8 ? 1 : 7) {
                WrongHole x = Due.worn("row " + buttons + " " + holes);
                DUE.is("buttons", buttons, x.count(0));
                DUE.is("holes", holes, x.count(1));
            }
        }
        DUE.liftFault(1, "row ^0 1");
        DUE.liftFault(1, "row ^9 1");
        DUE.liftFault(1, "row 1 ^0");
        DUE.liftFault(1, "row 8 ^9");
        DUE.liftFault(4, "row 1 1;^row 1 1");
        DUE.liftFault(4, "row 1 1;never 0;^row 1 1");
        for (String clause : SOUND) {
            DUE.liftFault(4, "^" + clause + ";row 1 1");
            DUE.liftIs(1, "row 1 1;" + clause);
        }
    }

    /** "gone NUMBER (a BUTTON)". */
    private static void gone() {
        DUE.is("gone 2 of three", 1, Due.worn(WIDE + "gone 2").button(2, 2));
        DUE.is("not the one above", 0, Due.worn(WIDE + "gone 2").button(1, 2));
        DUE.liftFault(1, WIDE + "gone ^3");
        DUE.liftIs(5, LONG + "gone 4");
        DUE.liftFault(1, LONG + "gone ^5");
        DUE.liftIs(8, "row 8 1;gone 7");
        DUE.liftFault(1, "row 8 1;gone ^8");
    }

    /** "sewn NUMBER (a HOLE)". */
    private static void sewn() {
        DUE.is("sewn 4 of five", 1, Due.worn(WIDE + "sewn 4").hole(4, 2));
        DUE.is("not the one above", 0, Due.worn(WIDE + "sewn 4").hole(3, 2));
        DUE.liftFault(1, WIDE + "sewn ^5");
        DUE.liftIs(5, LONG + "sewn 2");
        DUE.liftFault(1, LONG + "sewn ^3");
        DUE.liftIs(1, "row 1 8;sewn 7");
        DUE.liftFault(1, "row 1 8;sewn ^8");
    }

    /** "sort NUMBER NUMBER (a BUTTON, SORT 0 to 3)". */
    private static void sort() {
        for (int sort = 0; sort <= 3; sort++) {
            DUE.is("sort", sort, Due.worn(WIDE + "sort 2 " + sort).button(2, 1));
        }
        DUE.liftFault(1, WIDE + "sort 2 ^4");
        DUE.liftFault(1, WIDE + "sort ^3 0");
        DUE.liftIs(5, LONG + "sort 4 3");
        DUE.liftFault(1, LONG + "sort ^5 3");
    }

    /** "takes NUMBER NUMBER (a HOLE, the SORT it takes, 0 to 3)". */
    private static void takes() {
        for (int sort = 0; sort <= 3; sort++) {
            DUE.is("takes", sort, Due.worn(WIDE + "takes 4 " + sort).hole(4, 1));
        }
        DUE.liftFault(1, WIDE + "takes 4 ^4");
        DUE.liftFault(1, WIDE + "takes ^5 0");
        DUE.liftIs(5, LONG + "takes 2 3");
        DUE.liftFault(1, LONG + "takes ^3 3");
    }

    /** "in NUMBER NUMBER (a BUTTON, the HOLE in which it is ..)". */
    private static void inBounds() {
        DUE.is("in 4", 4, Due.worn(WIDE + "in 2 4").button(2, 0));
        DUE.is("in 0", 0, Due.worn(WIDE + "in 2 0").button(2, 0));
        DUE.liftFault(1, WIDE + "in ^3 0");
        DUE.liftFault(1, WIDE + "in 0 ^5");
        DUE.is("in 2", 2, Due.worn(LONG + "in 4 2").button(4, 0));
        DUE.liftFault(1, LONG + "in ^5 0");
        DUE.liftFault(1, LONG + "in 0 ^3");
    }

    /** ".. it can be so by what was told ahead"; "of a HOLE that can't be so, at it". */
    private static void inCanBeSo() {
        DUE.liftFault(1, WIDE + "gone 1;in 1 ^1");
        DUE.liftIs(3, WIDE + "gone 1;in 0 1");
        DUE.liftFault(1, WIDE + "sewn 1;in 1 ^1");
        DUE.liftIs(3, WIDE + "sewn 1;in 1 2");
        DUE.liftFault(1, WIDE + "sort 1 2;in 1 ^1");
        DUE.liftFault(1, WIDE + "takes 1 2;in 1 ^1");
        DUE.liftIs(3, WIDE + "sort 1 2;takes 1 2;in 1 1");
        DUE.liftIs(3, WIDE + "sort 1 2;sort 1 0;in 1 1");
        DUE.liftIs(3, WIDE + "in 1 2;in 0 1");
        DUE.liftFault(1, WIDE + "in 1 2;in 0 ^2");
        DUE.liftFault(1, WIDE + "in 1 2;in 0 ^3");
        DUE.liftIs(3, WIDE + "in 1 2;in 2 3");
        DUE.liftFault(1, WIDE + "in 1 2;in 2 ^2");
        DUE.liftFault(1, WIDE + "in 1 2;in 2 ^1");
        DUE.liftIs(3, WIDE + "in 0 1;in 2 3;in 1 2");
        DUE.liftFault(1, WIDE + "in 0 1;in 2 3;in 1 ^1");
        DUE.liftFault(1, WIDE + "in 0 1;in 2 3;in 1 ^3");
        DUE.liftFault(1, WIDE + "in 0 1;in 2 3;in 1 ^0");
        DUE.liftFault(1, WIDE + "in 0 1;in 2 3;in 1 ^4");
        String all = "row 8 8";
        for (int i = 7; i >= 0; i--) {
            all += ";in " + i + " " + i;
        }
        DUE.is("all in", 8, Due.worn(all).row(2));
    }

    /** "also of a BUTTON or HOLE that is in .. at it": of in it is the BUTTON, which is the first along the text. */
    private static void inTwice() {
        DUE.liftFault(1, WIDE + "in 0 0;in ^0 1");
        DUE.liftFault(1, WIDE + "in 0 0;in ^0 0");
        DUE.liftFault(1, WIDE + "in 0 0;in ^0 5");
        DUE.liftFault(1, WIDE + "in 0 0;in ^0");
        DUE.liftFault(1, WIDE + "in 0 0;in 1 ^0");
        DUE.liftIs(3, WIDE + "in 0 0;in 1 1");
    }

    /** "undo NUMBER NUMBER (a BUTTON, seconds 1 to 20) | do NUMBER NUMBER (likewise)". */
    private static void undoAndDo() {
        DUE.is("undo 1", 1, Due.worn(WIDE + "undo 2 1").button(2, 3));
        DUE.is("undo 20", 20, Due.worn(WIDE + "undo 2 20").button(2, 3));
        DUE.is("undo tells nothing of do", 2, Due.worn(WIDE + "undo 2 20").button(2, 4));
        DUE.liftFault(1, WIDE + "undo 2 ^0");
        DUE.liftFault(1, WIDE + "undo 2 ^21");
        DUE.liftFault(1, WIDE + "undo ^3 1");
        DUE.liftIs(5, LONG + "undo 4 1");
        DUE.liftFault(1, LONG + "undo ^5 1");
        DUE.is("do 1", 1, Due.worn(WIDE + "do 2 1").button(2, 4));
        DUE.is("do 20", 20, Due.worn(WIDE + "do 2 20").button(2, 4));
        DUE.is("do tells nothing of undo", 1, Due.worn(WIDE + "do 2 20").button(2, 3));
        DUE.liftFault(1, WIDE + "do 2 ^0");
        DUE.liftFault(1, WIDE + "do 2 ^21");
        DUE.liftFault(1, WIDE + "do ^3 1");
        DUE.liftIs(5, LONG + "do 4 1");
        DUE.liftFault(1, LONG + "do ^5 1");
    }

    /** "tie NUMBER NUMBER (so many BUTTONS from above, 1 to 8, seconds more .., 1 to 20; once at most)". */
    private static void tie() {
        WrongHole one = Due.worn(WIDE + "tie 1 1");
        DUE.is("the first is tied", 2, one.button(0, 3));
        DUE.is("the first is tied", 3, one.button(0, 4));
        DUE.is("the second is not", 1, one.button(1, 3));
        DUE.is("the second is not", 2, one.button(1, 4));
        WrongHole two = Due.worn(WIDE + "tie 2 20");
        DUE.is("the second is tied", 21, two.button(1, 3));
        DUE.is("the second is tied", 22, two.button(1, 4));
        DUE.is("the third is not", 1, two.button(2, 3));
        WrongHole all = Due.worn(WIDE + "tie 8 20");
        DUE.is("more than there are", 21, all.button(2, 3));
        DUE.is("seven of eight", 1, Due.worn("row 8 8;tie 7 20").button(7, 3));
        DUE.is("eight of eight", 21, Due.worn("row 8 8;tie 8 20").button(7, 3));
        DUE.is("told ahead of undo", 25, Due.worn(WIDE + "tie 8 20;undo 2 5").button(2, 3));
        DUE.liftFault(1, WIDE + "tie ^0 1");
        DUE.liftFault(1, WIDE + "tie ^9 1");
        DUE.liftFault(1, WIDE + "tie 1 ^0");
        DUE.liftFault(1, WIDE + "tie 1 ^21");
        DUE.liftFault(4, WIDE + "tie 1 1;^tie 1 1");
        DUE.liftFault(4, WIDE + "tie 8 20;never 0;^tie");
    }

    /** "beside NUMBER (1 to 8; once at most)". */
    private static void beside() {
        for (int n = 1; n <= 8; n++) {
            DUE.is("beside", n, Due.worn(WIDE + "beside " + n).count(6));
        }
        DUE.liftFault(1, WIDE + "beside ^0");
        DUE.liftFault(1, WIDE + "beside ^9");
        DUE.liftFault(4, WIDE + "beside 1;^beside 1");
        DUE.liftFault(4, WIDE + "beside 8;never 0;^beside");
    }

    /** "never NUMBER (a BUTTON)". */
    private static void never() {
        DUE.is("never 2", 4, Due.worn(WIDE + "never 2").count(7));
        DUE.is("never 0, twice", 1, Due.worn(WIDE + "never 0;never 0").count(7));
        DUE.liftFault(1, WIDE + "never ^3");
        DUE.is("never 4", 16, Due.worn(LONG + "never 4").count(7));
        DUE.liftFault(1, LONG + "never ^5");
    }

    /** "worth NUMBER NUMBER (a BUTTON, 0 to 99)". */
    private static void worth() {
        DUE.is("worth 0", 0, Due.worn(WIDE + "worth 2 0").button(2, 5));
        DUE.is("worth 99", 99, Due.worn(WIDE + "worth 2 99").button(2, 5));
        DUE.liftFault(1, WIDE + "worth 2 ^100");
        DUE.liftFault(1, WIDE + "worth ^3 0");
        DUE.liftIs(5, LONG + "worth 4 0");
        DUE.liftFault(1, LONG + "worth ^5 0");
    }

    /** "eye .. (a BUTTON, another one not ahead of it, or the same, a second 0 to 999)"; "a seventh EYE". */
    private static void eye() {
        for (String e : new String[] {"0 0 0", "2 2 999", "0 2 999", "1 2 0"}) {
            DUE.is("eye " + e, 1, Due.worn(WIDE + "eye " + e).count(3));
        }
        DUE.liftFault(1, WIDE + "eye 1 ^0 0");
        DUE.liftFault(1, WIDE + "eye 2 ^1 0");
        DUE.liftFault(1, WIDE + "eye ^3 3 0");
        DUE.liftFault(1, WIDE + "eye 0 ^3 0");
        DUE.liftFault(1, WIDE + "eye 0 0 ^1000");
        DUE.liftIs(5, LONG + "eye 4 4 0");
        DUE.liftFault(1, LONG + "eye 4 ^5 0");
        String six = "eye 0 0 0;eye 0 1 0;eye 0 2 0;eye 1 1 0;eye 1 2 0;eye 2 2 0";
        WrongHole x = Due.worn(WIDE + six);
        DUE.is("six eyes", 6, x.count(3));
        DUE.is("of 0", 3, x.button(0, 6));
        DUE.is("of 1", 4, x.button(1, 6));
        DUE.is("of 2", 3, x.button(2, 6));
        DUE.liftFault(4, WIDE + six + ";^eye 0 0 0");
        DUE.liftFault(4, WIDE + six + "; ^eye");
        DUE.liftIs(3, WIDE + six + ";never 0");
    }

    /** "Of one BUTTON or HOLE the last told". */
    private static void lastTold() {
        WrongHole x = Due.worn(WIDE + "sort 1 3;sort 1 1;takes 4 3;takes 4 2;undo 1 20;undo 1 19;do 1 18;do 1 17"
                + ";worth 1 99;worth 1 98;gone 2;gone 2;sewn 3;sewn 3");
        DUE.is("sort", 1, x.button(1, 1));
        DUE.is("takes", 2, x.hole(4, 1));
        DUE.is("undo", 19, x.button(1, 3));
        DUE.is("do", 17, x.button(1, 4));
        DUE.is("worth", 98, x.button(1, 5));
        DUE.is("gone stays gone", 1, x.button(2, 2));
        DUE.is("sewn stays sewn", 1, x.hole(3, 2));
    }

    /** "without: SORTS 0, undo 1, do 2, worth 1, beside 8". */
    private static void without() {
        WrongHole x = Due.worn("row 8 8");
        for (int i = 0; i < 8; i++) {
            int[] due = {-1, 0, 0, 1, 2, 1, 0, 1};
            for (int what = 0; what < 8; what++) {
                DUE.is("button(" + i + ", " + what + ")", due[what], x.button(i, what));
            }
            DUE.is("empty", -1, x.hole(i, 0));
            DUE.is("takes 0", 0, x.hole(i, 1));
            DUE.is("not sewn", 0, x.hole(i, 2));
        }
        DUE.is("beside", 8, x.count(6));
        DUE.is("never", 0, x.count(7));
        DUE.is("eyes", 0, x.count(3));
    }

    /** "gone, sewn, sort, takes are not told of a BUTTON or HOLE that is in or has one in." */
    private static void notOfThoseThatAreIn() {
        String in = WIDE + "in 0 1;";
        DUE.liftFault(1, in + "gone ^0");
        DUE.liftIs(3, in + "gone 1");
        DUE.liftFault(1, in + "sort ^0 0");
        DUE.liftFault(1, in + "sort ^0 4");
        DUE.liftFault(1, in + "sort ^0");
        DUE.liftIs(3, in + "sort 1 1");
        DUE.liftFault(1, in + "sewn ^1");
        DUE.liftIs(3, in + "sewn 0");
        DUE.liftFault(1, in + "takes ^1 0");
        DUE.liftFault(1, in + "takes ^1 4");
        DUE.liftFault(1, in + "takes ^1");
        DUE.liftIs(3, in + "takes 0 1");
        String first = WIDE + "in 1 0;";
        DUE.liftFault(1, first + "gone ^1");
        DUE.liftIs(3, first + "gone 0");
        DUE.liftFault(1, first + "sort ^1 0");
        DUE.liftIs(3, first + "sort 0 1");
        DUE.liftFault(1, first + "sewn ^0");
        DUE.liftIs(3, first + "sewn 1");
        DUE.liftFault(1, first + "takes ^0 0");
        DUE.liftIs(3, first + "takes 1 1");
        String last = "row 8 8;in 7 6;";
        DUE.liftFault(1, last + "gone ^7");
        DUE.liftIs(8, last + "gone 6");
        DUE.liftFault(1, last + "sewn ^6");
        DUE.liftIs(8, last + "sewn 7");
    }

    /** The same sentence leaves the other CLAUSES free to tell of a BUTTON that is in. */
    private static void ofThoseThatAreIn() {
        WrongHole x = Due.worn(WIDE + "in 0 1;undo 0 3;do 0 4;never 0;worth 0 5;eye 0 0 0;tie 1 1");
        DUE.is("undo", 4, x.button(0, 3));
        DUE.is("do", 5, x.button(0, 4));
        DUE.is("worth", 5, x.button(0, 5));
        DUE.is("eye", 1, x.button(0, 6));
        DUE.is("never", 1, x.count(7));
        DUE.is("still in", 1, x.button(0, 0));
    }

    /** "It is second 0." */
    private static void secondZero() {
        WrongHole x = Due.worn(WIDE + "eye 0 0 0;eye 0 0 1");
        DUE.is("clock", 0, x.count(4));
        DUE.is("only the eye from 0 on sees", 1, x.button(0, 6));
    }

    /** "0 a byte or WORD that can't stand there": WORDS go on as far as small letters do. */
    private static void words() {
        for (String clause : SOUND) {
            String name = clause.substring(0, clause.indexOf(' '));
            String rest = clause.substring(name.length());
            DUE.liftFault(0, "row 1 1;^" + name + "x" + rest);
            DUE.liftFault(0, "row 1 1;^" + name.substring(0, name.length() - 1) + rest);
            DUE.liftFault(0, "row 1 1;^" + name.toUpperCase() + rest);
            DUE.liftFault(0, "row 1 1;^x" + name + rest);
            DUE.liftFault(0, "row 1 1;" + name + "^");
            DUE.liftFault(0, "row 1 1;" + name + " ^x");
            DUE.liftFault(0, "row 1 1;" + clause + " ^0");
            DUE.liftFault(0, "row 1 1;" + clause + "^x");
            DUE.liftFault(0, "row 1 1;" + clause.substring(0, clause.length() - 1) + "^");
            DUE.liftIs(1, "row 1 1;" + name + rest.substring(1));
        }
        DUE.liftFault(0, "^ro 1 1");
        DUE.liftFault(0, "^rowrow 1 1");
        DUE.liftFault(0, "^act 1");
        DUE.liftFault(0, "row ^row 1 1");
        DUE.liftFault(0, "row 1 ^in");
    }

    /** "1 a NUMBER of more digits, or not as told": 1 to 5 digits, "as far as digits go on". */
    private static void numbers() {
        DUE.liftIs(8, "row 00008 00001");
        DUE.liftFault(1, "row ^000008 1");
        DUE.liftFault(1, "row 8 ^000001");
        DUE.liftFault(1, "row ^99999 1");
        DUE.liftFault(1, "row ^4294967297 1");
        DUE.liftFault(1, "row 1 ^18446744073709551617");
        DUE.liftFault(1, "row ^11");
        DUE.liftFault(1, "row 1 1;gone ^000000");
        DUE.liftIs(1, "row 1 1;gone 00000");
        DUE.liftIs(1, "row 1 1;worth 0 00099");
        DUE.liftFault(1, "row 1 1;worth 0 ^000099");
        DUE.liftFault(1, "row 1 1;eye 0 0 ^000000");
        DUE.liftFault(0, "row ^-1 1");
        DUE.liftFault(0, "row ^+1 1");
        DUE.liftFault(0, "row 1^.0 1");
    }

    /** "Blanks (32) stand between as one likes." No other byte is a blank, a digit or a small letter. */
    private static void blanksAndSigns() {
        DUE.liftIs(1, "row1 1");
        DUE.liftIs(1, "    row    1    1    ");
        DUE.liftIs(1, " row 1 1 ; in 0 0 ; beside 1 ");
        DUE.liftIs(1, "row 1 1;in0 0;beside1");
        DUE.liftFault(0, "^r ow 1 1");
        char[] strange = {0, 9, 10, 13, 31, 33, ',', '/', ':', '@', 'A', 'Z', '[', '`', '{', 127, 128, 160, 176, 225,
            255};
        for (char c : strange) {
            DUE.liftFault(0, "^" + c + "row 1 1");
            DUE.liftFault(0, "row^" + c + "1 1");
            DUE.liftFault(0, "row 1^" + c + "1");
            DUE.liftFault(0, "row 1 1^" + c);
            DUE.liftFault(0, "row 1 1^" + c + "never 0");
            DUE.liftFault(0, "row 1 1;^" + c + "never 0");
        }
    }

    /** "or the end (behind the last byte)". */
    private static void ends() {
        DUE.liftFault(0, "^");
        DUE.liftFault(0, "   ^");
        DUE.liftFault(0, "row^");
        DUE.liftFault(0, "row  ^");
        DUE.liftFault(0, "row 1^");
        DUE.liftFault(0, "row 1 1;^");
        DUE.liftFault(0, "row 1 1;  ^");
        DUE.liftFault(0, "^;row 1 1");
        DUE.liftFault(0, "row 1 1;^;never 0");
        DUE.liftFault(0, "row 1 1;eye 0 0^");
        DUE.liftFault(0, "row 1 1" + " ".repeat(392) + ";^");
    }

    /** "FAULTS, the first along the text". */
    private static void firstAlongTheText() {
        DUE.liftFault(1, "row ^0 0;nix");
        DUE.liftFault(1, "row 1 ^0;nix");
        DUE.liftFault(0, "row 1 1;^nix;row 1 1");
        DUE.liftFault(4, "row 1 1;^row 9 9");
        DUE.liftFault(1, "row 1 1;sort ^1 4");
        DUE.liftFault(1, "row 1 1;eye ^1 1 1000");
        DUE.liftFault(1, "row 3 3;eye 2 ^1 1000");
        DUE.liftFault(1, "row 1 1;undo ^1 x");
        DUE.liftFault(1, "row 1 1;gone ^1" + ";never 0".repeat(40));
    }

    /** "Of one place the least": a WORD that can't stand there, or the end, comes ahead of one CLAUSE too many. */
    private static void leastOfOnePlace() {
        String forty = "row 1 1" + ";never 0".repeat(39);
        DUE.liftFault(0, forty + ";^");
        DUE.liftFault(0, forty + ";^nevers 0");
        DUE.liftFault(0, forty + ";^0");
        DUE.liftFault(0, forty + " ^0");
        DUE.liftFault(4, forty + ";^row");
        DUE.liftFault(0, "^0");
        DUE.liftFault(0, "^ties 1 1");
    }

    /** "(CLOCK 0, no CREASES, nothing to be TAKEN BACK; SEATS, x stay)"; "The TAPE, which is empty then". */
    private static void taken() {
        WrongHole x = Due.wornAt(30, "row 4 4;in 0 1;beside 2;never 1;eye 0 3 0;worth 0 9");
        Due.rule(x, "act 1");
        x.crease(4, 0, 3);
        x.seat(7, 2);
        x.seed(2147483647);
        x.image(1);
        Due.tell(x, "row 2 3;in 1 2");
        DUE.is("bytes ahead of it", 14, x.count(11));
        DUE.is("lift", 2, x.lift());
        int[] due = {2, 3, 1, 0, 0, 0, 8, 0, 0, 9, 2147483647, 0};
        for (int what = 0; what < due.length; what++) {
            DUE.is("count(" + what + ")", due[what], x.count(what));
        }
        DUE.is("none can be taken back", -1, x.takeBack());
        DUE.is("in", 2, x.button(1, 0));
        DUE.is("open", -1, x.button(0, 0));
        DUE.is("worth", 1, x.button(0, 5));
        // 1, 6 and 3 with 0 to 2 in: no crease counts.
        DUE.is("ways", 10, x.ways(0));
        DUE.is("an empty tape is no lift", Due.fault(0, 0), x.lift());
        DUE.is("its image stays", 30, x.back(1));
        DUE.is("who sat stays", 2, x.seat(7, -1));
    }

    /** "-2 - its FAULT, and all stays": the TAPE, too. */
    private static void faulty() {
        WrongHole x = Due.wornAt(30, "row 4 4;in 0 1");
        Due.tell(x, "row 2 2;in 0 0;nix");
        DUE.is("a fault", Due.fault(15, 0), x.lift());
        DUE.is("the tape stays", 18, x.count(11));
        DUE.is("the fault as well", Due.fault(15, 0), x.lift());
        DUE.is("the clock stays", 30, x.count(4));
        DUE.is("the row stays", 1, x.button(0, 0));
        DUE.is("what can be taken back stays", 0, x.takeBack());
        DUE.is("without the fault's clause", 14, x.end(14));
        DUE.is("it is a lift", 2, x.lift());
        DUE.is("the tape is empty then", 0, x.count(11));
        DUE.is("in", 0, x.button(0, 0));
    }
}
