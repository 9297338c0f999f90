/**
 * Promise 5 and the RULES of the Terms, boundary by boundary: the last that is taken, the first that is not.
 * A comment above a test is the sentence of the document that it holds to; a ^ marks where a fault is due.
 */
public final class RuleEdgeTest {
    private static final Due DUE = new Due();
    /** 2 to the 63rd, which goes round to the least number there is. */
    private static final String LEAST = "32768*32768*32768*32768*8";

    public static void main(String[] args) {
        six();
        sixFull();
        faulty();
        clauses();
        actAndIf();
        tests();
        facts();
        signs();
        sums();
        numbers();
        words();
        cutOff();
        strangeBytes();
        deep();
        notDeep();
        values();
        valuesOfFacts();
        firstAlongTheText();
        leastOfOnePlace();
        divided();
        round();
        order();
        DUE.close();
    }

    /** "RULES 0 to 5"; "its number; .. NONE, and nothing happens: there are 6". */
    private static void six() {
        WrongHole x = new WrongHole();
        for (int i = 0; i < 6; i++) {
            DUE.is("rules", i, x.count(2));
            DUE.is("rule", i, Due.rule(x, "act " + (i == 5 ? "1" : "0")));
            DUE.is("the tape is empty then", 0, x.count(11));
        }
        Due.tell(x, "act 1");
        DUE.is("there are 6", -1, x.rule());
        DUE.is("rules", 6, x.count(2));
        DUE.is("the tape stays", 5, x.count(11));
        Due.tell(x, "bat");
        DUE.is("there are 6, whatever the text", -1, x.rule());
        DUE.is("the tape stays", 3, x.count(11));
        Due.tell(x, "row 1 1");
        DUE.is("there are 6", -1, x.rule());
        DUE.is("what stayed can be a lift", 1, x.lift());
        DUE.is("rule 4", 0, x.run(4, 1));
        DUE.is("rule 5", 1, x.run(5, 1));
        DUE.is("rule 6", -1, x.run(6, 1));
    }

    /** The same of six as long as can be: each counts as it was told. */
    private static void sixFull() {
        WrongHole x = Due.worn("row 1 1");
        for (int i = 0; i < 6; i++) {
            String test = "1=2" + " or not 1=1".repeat(17) + " or " + i + "=clock";
            String text = "act 1+0+0 if [[" + test + "]]";
            DUE.is("rule", i, Due.rule(x, text + " ".repeat(400 - text.length())));
        }
        // Rule 3 acts at 3, for two seconds: so rule 5 does at 5.
        int[] due = {0, 0, 0, 1, 0, 1};
        x.waits(3);
        for (int i = 0; i < 6; i++) {
            DUE.is("rule " + i, due[i], x.run(i, 1));
        }
        DUE.is("clock", 6, x.count(4));
    }

    /** "The TAPE, which is empty then, is a RULE: .. -2 - its FAULT": nothing happens with the seventh alone. */
    private static void faulty() {
        WrongHole x = Due.wornAt(7, "row 1 1");
        DUE.is("rule", 0, Due.rule(x, "act 1"));
        DUE.is("a fault", Due.fault(4, 0), Due.rule(x, "act x"));
        DUE.is("no rule came", 1, x.count(2));
        DUE.is("the tape is empty then", 0, x.count(11));
        DUE.is("an empty tape is no rule", Due.fault(0, 0), x.rule());
        DUE.is("the clock stays", 7, x.count(4));
        DUE.is("what can be taken back stays", 1, x.count(5));
        DUE.is("the next one's number", 1, Due.rule(x, "act 2"));
    }

    /** "12 CLAUSES at most"; "4 one CLAUSE too many .. (at its first byte)"; "texts likewise". */
    private static void clauses() {
        DUE.ruleIsTaken("act 1");
        DUE.ruleIsTaken("act 1" + ";act 1".repeat(11));
        DUE.ruleFault(4, "act 1" + ";act 1".repeat(11) + ";^act 1");
        DUE.ruleFault(4, "act 1" + ";act 1".repeat(11) + ";  ^act");
        WrongHole x = Due.worn("row 1 1");
        Due.rule(x, "act 0 if 1=2" + ";act 0 if 1=2".repeat(10) + ";act 1");
        DUE.is("the twelfth counts", 1, x.run(0, 1));
        String full = "act 1" + " ".repeat(388) + "if 1=21";
        DUE.is("400 bytes", 400, full.length());
        WrongHole y = Due.worn("row 1 1");
        Due.rule(y, full);
        Due.rule(y, full.replace("=2", "=1").substring(0, 399));
        DUE.is("the last of 400 bytes counts", 0, y.run(0, 1));
        DUE.is("399 bytes", 1, y.run(1, 1));
    }

    /** "act SUM [ if TEST ]". */
    private static void actAndIf() {
        DUE.ruleFault(0, "^");
        DUE.ruleFault(0, "  ^");
        DUE.ruleFault(0, "^ac 1");
        DUE.ruleFault(0, "^acts 1");
        DUE.ruleFault(0, "^ACT 1");
        DUE.ruleFault(0, "^1");
        DUE.ruleFault(0, "^;act 1");
        DUE.ruleFault(0, "act^");
        DUE.ruleFault(0, "act  ^");
        DUE.ruleFault(0, "act ^;act 1");
        DUE.ruleFault(0, "act ^if 1=1");
        DUE.ruleFault(0, "act ^act 1");
        DUE.ruleFault(0, "act 1 ^act 1");
        DUE.ruleFault(0, "act 1;^");
        DUE.ruleFault(0, "act 1; ^");
        DUE.ruleFault(0, "act 1;^;act 1");
        DUE.ruleFault(0, "act 1 ^i 1=1");
        DUE.ruleFault(0, "act 1 ^iff 1=1");
        DUE.ruleFault(0, "act 1 if^");
        DUE.ruleFault(0, "act 1 if ^;act 1");
        DUE.ruleFault(0, "act 1 if ^if 1=1");
        DUE.ruleFault(0, "act 1 if 1=1 ^if 1=1");
        DUE.ruleFault(0, "act 1 ^= 1");
        DUE.ruleIsTaken("act1if1=1;act1");
        DUE.ruleIsTaken("  act  1  if  1  =  1  ;  act  1  ");
    }

    /** "TEST: PART { or PART }. PART: FACT { and FACT }." */
    private static void tests() {
        DUE.ruleFault(0, "act 1 if 1=1 or^");
        DUE.ruleFault(0, "act 1 if 1=1 and^");
        DUE.ruleFault(0, "act 1 if ^or 1=1");
        DUE.ruleFault(0, "act 1 if ^and 1=1");
        DUE.ruleFault(0, "act 1 if 1=1 or ^or 1=1");
        DUE.ruleFault(0, "act 1 if 1=1 or ^and 1=1");
        DUE.ruleFault(0, "act 1 if 1=1 and ^or 1=1");
        DUE.ruleFault(0, "act 1 if 1=1 ^ors 1=1");
        DUE.ruleFault(0, "act 1 if 1=1 ^an 1=1");
        DUE.ruleFault(0, "act 1 if 1=1 ^not 1=1");
        DUE.ruleFault(0, "act 1 if 1=1 ^[1=1]");
        DUE.ruleFault(0, "act 1 ^or 1");
        DUE.ruleIsTaken("act 1 if 1=1or1=1and 1=1or not1=1and[1=1]or[1=1]and not[1=1]");
    }

    /** "FACT: not FACT | [ TEST ] (these brackets are signs) | SUM SIGN SUM". */
    private static void facts() {
        DUE.ruleFault(0, "act 1 if not^");
        DUE.ruleFault(0, "act 1 if not ^]");
        DUE.ruleFault(0, "act 1 if not ^or 1=1");
        DUE.ruleFault(0, "act 1 if ^no 1=1");
        DUE.ruleFault(0, "act 1 if ^nott 1=1");
        DUE.ruleFault(0, "act 1 if [^");
        DUE.ruleFault(0, "act 1 if [^]");
        DUE.ruleFault(0, "act 1 if [1=1^");
        DUE.ruleFault(0, "act 1 if [1=1^;act 1");
        DUE.ruleFault(0, "act 1 if [1=1 ^)");
        DUE.ruleFault(0, "act 1 if 1=1^]");
        DUE.ruleFault(0, "act 1 if [1=1]^]");
        DUE.ruleFault(0, "act 1 if [1^]");
        DUE.ruleFault(0, "act 1 if [1=1] ^= 1");
        DUE.ruleFault(0, "act 1 if 1 = ^[1]");
        DUE.ruleFault(0, "act 1 if 1 = ^not 1");
        DUE.ruleFault(0, "act 1 if ^(1=1)");
        DUE.ruleFault(0, "act ^[1]");
        DUE.ruleFault(0, "act ^not 1");
        DUE.ruleFault(0, "act 1 ^]");
        DUE.ruleIsTaken("act 1 if [ not [ 1=1 ] ] and not not[1=1]");
    }

    /** "SIGN one of < <= = >= >". */
    private static void signs() {
        for (String sign : new String[] {"<", "<=", "=", ">=", ">"}) {
            DUE.ruleIsTaken("act 1 if 1" + sign + "1");
            DUE.ruleIsTaken("act 1 if open " + sign + " open");
            DUE.ruleFault(0, "act 1 if 1" + sign + "^");
            DUE.ruleFault(0, "act 1 if 1" + sign + " ^if");
            DUE.ruleFault(0, "act 1 if ^" + sign + "1");
            DUE.ruleFault(0, "act 1 if 1" + sign + "1^" + sign + "1");
        }
        DUE.ruleFault(0, "act 1 if 1^");
        DUE.ruleFault(0, "act 1 if 1 ^and 1=1");
        DUE.ruleFault(0, "act 1 if 1 ^1");
        DUE.ruleFault(0, "act 1 if 1< ^= 1");
        DUE.ruleFault(0, "act 1 if 1> ^= 1");
        DUE.ruleFault(0, "act 1 if 1=^= 1");
        DUE.ruleFault(0, "act 1 if 1=^< 1");
        DUE.ruleFault(0, "act 1 if 1=^> 1");
        DUE.ruleFault(0, "act 1 if 1<^> 1");
        DUE.ruleFault(0, "act 1 if 1<=^= 1");
        DUE.ruleFault(0, "act 1 if 1^!= 1");
        // Whichever SIGN a FACT is made of, it holds as any other one does.
        for (String sure : new String[] {"1<2", "1<=2", "2<=2", "2=2", "2>=2", "2>=1", "2>1"}) {
            holds(true, sure + " and 1=1");
            holds(true, "1=1 and " + sure);
            holds(true, sure + " and " + sure);
            holds(false, sure + " and 1=2");
            holds(true, sure + " or 1=2");
            holds(true, "1=2 or " + sure);
            holds(false, "not " + sure);
            holds(true, "not not " + sure + " and not 1=2 and not not " + sure);
        }
        holds(true, "1 < 2");
        holds(false, "2 < 2");
        holds(false, "3 < 2");
        holds(true, "1 <= 2");
        holds(true, "2 <= 2");
        holds(false, "3 <= 2");
        holds(false, "1 = 2");
        holds(true, "2 = 2");
        holds(false, "3 = 2");
        holds(false, "1 >= 2");
        holds(true, "2 >= 2");
        holds(true, "3 >= 2");
        holds(false, "1 > 2");
        holds(false, "2 > 2");
        holds(true, "3 > 2");
    }

    /** "SUM: TERM { (+ or -) TERM }. TERM: VALUE { (* or / or %) VALUE }." */
    private static void sums() {
        for (String sign : new String[] {"+", "-", "*", "/", "%"}) {
            DUE.ruleIsTaken("act 1" + sign + "1");
            DUE.ruleIsTaken("act open " + sign + " open" + sign + "2 " + sign + "open");
            DUE.ruleIsTaken("act 1 if 1" + sign + "1=1" + sign + "1");
            DUE.ruleFault(0, "act 1" + sign + "^");
            DUE.ruleFault(0, "act 1" + sign + "^;act 1");
            DUE.ruleFault(0, "act 1" + sign + "^" + sign + "1");
            DUE.ruleFault(0, "act ^" + sign + "1");
            DUE.ruleFault(0, "act 1 if 1=1" + sign + "^");
            DUE.ruleFault(0, "act 1 if 1" + sign + "^=1");
        }
        DUE.ruleFault(0, "act 1 ^1");
        DUE.ruleFault(0, "act 1 ^open");
        DUE.ruleFault(0, "act open ^1");
        DUE.ruleFault(0, "act 1^&1");
    }

    /** "NUMBER (1 to 5 digits, as far as digits go on)"; "1 a NUMBER of more digits". */
    private static void numbers() {
        DUE.ruleIsTaken("act 0");
        DUE.ruleIsTaken("act 99999");
        DUE.ruleIsTaken("act 00000");
        DUE.ruleFault(1, "act ^100000");
        DUE.ruleFault(1, "act ^000000");
        DUE.ruleFault(1, "act 1+^000001");
        DUE.ruleFault(1, "act 1 if ^123456=1");
        DUE.ruleFault(1, "act 1 if 1=^123456");
        DUE.ruleFault(1, "act ^42949672960");
        DUE.ruleFault(1, "act ^18446744073709551617");
        holds(true, "99999+1 = 50000*2");
        holds(true, "00012 = 12");
        DUE.ruleFault(0, "act 12^open");
        DUE.ruleFault(0, "act open^12");
    }

    /** "WORD. WORDS (small letters, as far as these go on)". */
    private static void words() {
        String[] names = {"done", "button", "hole", "right", "open", "wrong", "run", "after", "seconds", "clock",
            "seen", "worth"};
        for (String name : names) {
            DUE.ruleIsTaken("act " + name);
            DUE.ruleIsTaken("act 1 if 1" + "=" + name);
            DUE.ruleFault(0, "act ^" + name + "s");
            DUE.ruleFault(0, "act ^" + name.substring(0, name.length() - 1));
            DUE.ruleFault(0, "act ^" + name.toUpperCase());
            DUE.ruleFault(0, "act 1+^x" + name);
        }
        DUE.ruleFault(0, "act ^shown");
        DUE.ruleFault(0, "act ^beside");
    }

    /** What end() has cut off is not read: no word, number or sign goes on behind the end of the tape. */
    private static void cutOff() {
        DUE.is("act open", 0, cut("act opens", 8));
        DUE.is("act 12345", 0, cut("act 123456", 9));
        DUE.is("act 1 if 1<", Due.fault(11, 0), cut("act 1 if 1<=1", 11));
        DUE.is("act 1", 0, cut("act 1 if", 5));
        DUE.is("act 1 ", 0, cut("act 1 if", 6));
        DUE.is("act 1 i", Due.fault(6, 0), cut("act 1 if", 7));
    }

    private static int cut(String text, int length) {
        WrongHole x = new WrongHole();
        Due.tell(x, text);
        x.end(length);
        return x.rule();
    }

    /** No other byte is a blank, a digit, a small letter or a sign. */
    private static void strangeBytes() {
        char[] strange = {0, 9, 10, 31, 33, '.', ':', '@', 'A', 'Z', '\\', '`', '{', 127, 128, 160, 225, 255};
        for (char c : strange) {
            DUE.ruleFault(0, "^" + c + "act 1");
            DUE.ruleFault(0, "act ^" + c + "1");
            DUE.ruleFault(0, "act 1^" + c);
            DUE.ruleFault(0, "act open^" + c);
            DUE.ruleFault(0, "act 1 if 1=1^" + c);
        }
    }

    /** "[ and not lie within one another 10 deep at most"; "2 too deep (at the sign that opens, or the word not)". */
    private static void deep() {
        DUE.ruleIsTaken("act 1 if " + "[".repeat(10) + "1=1" + "]".repeat(10));
        DUE.ruleFault(2, "act 1 if " + "[".repeat(10) + "^[1=1" + "]".repeat(11));
        DUE.ruleFault(2, "act 1 if " + "[".repeat(10) + " ^[");
        DUE.ruleIsTaken("act 1 if " + "not ".repeat(10) + "1=1");
        DUE.ruleFault(2, "act 1 if " + "not ".repeat(10) + "^not 1=1");
        DUE.ruleFault(2, "act 1 if " + "not ".repeat(10) + "^not");
        DUE.ruleIsTaken("act 1 if " + "not[".repeat(5) + "1=1" + "]".repeat(5));
        DUE.ruleFault(2, "act 1 if " + "not[".repeat(5) + "^not 1=1" + "]".repeat(5));
        DUE.ruleFault(2, "act 1 if " + "[not ".repeat(5) + "^[1=1" + "]".repeat(6));
        DUE.ruleFault(2, "act 1 if " + "not ".repeat(9) + "[^not 1=1]");
        DUE.ruleFault(2, "act 1 if " + "not ".repeat(9) + "[1=1 or 1=1 and ^[1=1]]");
        DUE.ruleFault(2, "act 1 if 1=1 and " + "[".repeat(10) + "1=1 and ^not 1=1");
    }

    /** What lies beside one another does not lie within: a ] leads out, and so does the FACT behind a not. */
    private static void notDeep() {
        String ten = "[".repeat(10) + "1=1" + "]".repeat(10);
        DUE.ruleIsTaken("act 1 if " + ten + " and " + ten + " or " + ten);
        DUE.ruleIsTaken("act 1 if not not not not not not 1=1 and not not not not not not 1=1");
        DUE.ruleIsTaken("act 1 if " + ten + ";act 1 if " + ten);
        DUE.ruleFault(2, "act 1 if " + ten + " and " + "[".repeat(10) + "^[1=1]");
        holds(true, "[".repeat(10) + "1=1" + "]".repeat(10) + " and " + "not ".repeat(10) + "1=1");
        holds(false, "[".repeat(9) + "not 1=1" + "]".repeat(9));
        holds(true, "not ".repeat(9) + "1=2");
        String nested = "1=2";
        for (int i = 0; i < 10; i++) {
            nested = (i % 2 == 0 ? "1=2 or [" : "1=1 and [") + nested + "]";
        }
        holds(false, nested);
        holds(true, nested.replace("[1=2]", "[1=1]"));
    }

    /** "at most 60 VALUES (of SUMS) and FACTS .., together"; "3 one VALUE .. too many (at its first byte)". */
    private static void values() {
        DUE.ruleIsTaken("act 1" + "+1".repeat(59));
        DUE.ruleFault(3, "act 1" + "+1".repeat(59) + "+^1");
        DUE.ruleFault(3, "act 1" + "+1".repeat(59) + "+ ^12345");
        DUE.ruleFault(3, "act open" + "*1".repeat(59) + "*^worth");
        DUE.ruleIsTaken("act 1" + "+1".repeat(29) + ";act 1" + "+1".repeat(29));
        DUE.ruleFault(3, "act 1" + "+1".repeat(29) + ";act 1" + "+1".repeat(29) + "+^1");
        // Five a clause: the twelfth one ends at 60.
        DUE.ruleIsTaken("act 1+1 if 1=1" + ";act 1+1 if 1=1".repeat(11));
        DUE.ruleFault(3, "act 1+1+1 if 1=1" + ";act 1+1 if 1=1".repeat(10) + ";act 1+1 if 1=^1");
        WrongHole x = Due.worn("row 1 1");
        Due.rule(x, "act 1" + "-1".repeat(58) + "+58");
        Due.rule(x, "act 1" + "-1".repeat(58) + "+57");
        DUE.is("the sixtieth counts", 1, x.run(0, 1));
        DUE.is("it is not above 0", 0, x.run(1, 1));
    }

    /** ".. or FACT too many (.. of a FACT at its SIGN)": [, not, and, or are not counted. */
    private static void valuesOfFacts() {
        // 1 and 19 times 3 are 58.
        String most = "act 1 if 1=1" + " or 1=1".repeat(18);
        DUE.ruleIsTaken(most);
        DUE.ruleFault(3, most + " or 1=^1");
        DUE.ruleFault(3, most + " or 1+1^=1");
        DUE.ruleFault(3, most + " or 1+1 ^<= 1");
        DUE.ruleFault(3, most + " or 1+1+^1=1");
        DUE.ruleIsTaken(most + ";act 1+1");
        DUE.ruleFault(3, most + ";act 1 if 1^=1");
        DUE.ruleFault(3, most + ";act 1+1 if ^1=1");
        DUE.ruleIsTaken("act 1+1+1 if [[not 1=1]" + " or 1=1".repeat(18) + "]");
        DUE.ruleFault(3, "act 1+1+1+1 if [[not 1=1]" + " or 1=1".repeat(17) + " and not[1=^1]]");
    }

    /** "FAULTS, the first along the text". */
    private static void firstAlongTheText() {
        DUE.ruleFault(1, "act ^123456 if x");
        DUE.ruleFault(0, "act 1 ^iff [[[[[[[[[[[1=1");
        DUE.ruleFault(2, "act 1 if " + "[".repeat(10) + "^[123456=x");
        DUE.ruleFault(3, "act 1" + "+1".repeat(59) + "+^1 if x");
        DUE.ruleFault(4, "act 1" + ";act 1".repeat(11) + ";^act x");
        DUE.ruleFault(0, "act 1" + ";act 1".repeat(10) + ";^bat 1;act 1;act 1");
    }

    /** "Of one place the least." */
    private static void leastOfOnePlace() {
        String twelve = "act 1" + ";act 1".repeat(11);
        DUE.ruleFault(0, twelve + ";^");
        DUE.ruleFault(0, twelve + ";^acts 1");
        DUE.ruleFault(0, twelve + ";^1");
        DUE.ruleFault(0, twelve + "^:act 1");
        String sixty = "act 1" + "+1".repeat(59);
        DUE.ruleFault(0, sixty + "+^");
        DUE.ruleFault(0, sixty + "+^x");
        DUE.ruleFault(0, sixty + "+^+");
        DUE.ruleFault(1, sixty + "+^123456");
        DUE.ruleFault(3, sixty + "+^99999");
        DUE.ruleFault(0, sixty + " if ^;");
        DUE.ruleFault(3, sixty + " if ^1");
        String most = "act 1 if 1=1" + " or 1=1".repeat(18);
        DUE.ruleFault(0, most + " or 1+1^");
        DUE.ruleFault(0, most + " or 1+1 ^and 1=1");
        DUE.ruleFault(0, most + " or 1+1^]");
        DUE.ruleFault(0, "act 1 if " + "[".repeat(10) + "^]");
    }

    private static void holds(boolean due, String test) {
        WrongHole x = Due.worn("row 1 1");
        DUE.is("rule with " + test, 0, Due.rule(x, "act 1 if " + test));
        DUE.is(test, due ? 1 : 0, x.run(0, 1));
    }

    /** "/ is towards 0, % its rest, both 0 by 0". */
    private static void divided() {
        holds(true, "7/0 = 0");
        holds(true, "7%0 = 0");
        holds(true, "0/0 = 0");
        holds(true, "0%0 = 0");
        holds(true, "7/done = 7");
        holds(true, "7/button = 0");
        holds(true, "7%button = 0");
        holds(true, "7/0+5 = 5");
        holds(true, "5-7%0 = 5");
        holds(true, "6/7 = 0");
        holds(true, "7/7 = 1");
        holds(true, "6%7 = 6");
        holds(true, "7%7 = 0");
        // The least number is 3 times -3074457345618258602 and -2.
        holds(true, LEAST + "%3 = 0-2");
        holds(true, LEAST + "/3*3-2 = " + LEAST);
        holds(true, LEAST + "/3 < 0");
    }

    /** "all goes round in 64 bits": a SUM that has gone round is not above 0, and one that has come round again is. */
    private static void round() {
        sum(0, LEAST);
        sum(1, LEAST + "-1");
        sum(0, LEAST + "*2");
        sum(1, LEAST + "*2+1");
        sum(0, LEAST + "+1");
        sum(1, "32768*32768*32768*32768*4");
        sum(1, "32768*32768*32768*32768*8-1-1");
        sum(0, "32768*32768*32768*32768*8-1+1");
        holds(true, LEAST + "-1 > 0");
        holds(true, LEAST + " < 0");
        holds(true, "0-" + LEAST + " = " + LEAST);
        holds(true, LEAST + "-1 > 99999*99999*99999");
        // 65536 times 65536 does not go round: 32 bits are not asked.
        holds(true, "65536*65536 > 65536");
        holds(true, "32768*65536 > 0");
    }

    private static void sum(int acts, String sum) {
        WrongHole x = Due.worn("row 1 1");
        DUE.is("rule act " + sum, 0, Due.rule(x, "act " + sum));
        DUE.is("act " + sum, acts, x.run(0, 1));
    }

    /** * / % bind more than + -, and more than and, which binds more than or; from the left to the right. */
    private static void order() {
        holds(true, "2+3*4 = 14");
        holds(true, "2*3+4 = 10");
        holds(true, "20-3-4 = 13");
        holds(true, "20-3+4 = 21");
        holds(true, "20/3*2 = 12");
        holds(true, "20*3/8 = 7");
        holds(true, "20%7*2 = 12");
        holds(true, "2*20%7 = 5");
        holds(true, "100-20/3%4*5-1 = 89");
        holds(true, "1=1 or 1=1 and 1=2");
        holds(true, "1=2 and 1=1 or 1=1");
        holds(false, "1=2 and [1=1 or 1=1]");
        holds(false, "not 1=1 and 1=2");
        holds(true, "not [1=1 and 1=2]");
        holds(true, "not 1=1 or 1=1");
        holds(false, "1=2 or 1=1 and 1=2 or 1=2");
        holds(true, "1=2 or 1=2 or 1=1");
        holds(true, "1=2 or 1=1 or 1=2");
        holds(true, "1=1 or 1=2 or 1=2");
        holds(false, "1=2 or 1=2 or 1=2");
        holds(false, "1=2 and 1=1 and 1=1");
        holds(false, "1=1 and 1=2 and 1=1");
        holds(true, "1=1 and 1=1 or 1=2 and 1=2 or 1=2");
        holds(false, "1=1 and 1=1 and 1=2");
    }
}
