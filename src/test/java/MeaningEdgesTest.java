/** Each edge that NAMES MEAN, FAULTS and what a K may be name: the last case that stands, and the first that doesn't (promises 4 and 5). */
public final class MeaningEdgesTest {
    private static final String GO = "; LET START() BE FINISH";

    public static void main(String[] args) {
        globals();
        vectors();
        shifts();
        divisions();
        wrapping();
        words();
        whereWordsLie();
        routines();
        frames();
        entries();
        blocks();
        labels();
        loopsAndSwitches();
        placesOfFaults();
        sameCases();
        Check.end();
    }

    /** "GLOBAL: word K, 0 .. 99, of the store". */
    private static void globals() {
        for (String k : new String[] {"0", "99", "98 + 1", "1 - 1", "-99 * -1", "0 -> 100, 99", "100 REM 100", "TRUE + 1", "'c'"}) {
            Check.good("GLOBAL $( G: " + k + " $)" + GO);
            Check.good("LET START() BE $( GLOBAL $( G: " + k + " $); FINISH $)");
        }
        for (String k : new String[] {"^100", "^-1", "^99 + 1", "^0 - 1", "^TRUE", "^(100)", "^+100", "^#X7FFFFFFF", "^#X80000000", "^4294967295", "^'d'"}) {
            Check.fault("GLOBAL $( G: " + k + " $)" + GO, 6);
            Check.fault("LET START() BE $( GLOBAL $( F: 1; G: " + k + " $); FINISH $)", 6);
        }
        WordTongue x = new WordTongue();
        Check.compile(x, "GLOBAL $( A: 0; B: 99 $); LET START() BE $( A := 7; B := 8 $)");
        Check.due("run", x.run(10), 0);
        Check.due("word 0", x.word(0), 7);
        Check.due("word 99", x.word(99), 8);
        Check.due("word 100 is START's", x.word(100), 1000000);
        // Of two GLOBALs of one K the word is one; the later routine's entry is there.
        Check.prints("GLOBAL $( A: 99; B: 99 $); LET START() BE $( A := 5; WRITEN(B); WRITEN(@A = @B) $)", "5-1");
        Check.prints("GLOBAL $( A: 0; B: 0; C: 0 $); LET B() = 2; LET A() = 1; LET C() = 3; LET START() BE WRITEN(A())", "3");
    }

    /** "a K ... of 0 .. 30000 behind VEC (at its first token)". */
    private static void vectors() {
        for (String k : new String[] {"0", "1", "30000", "15000 * 2", "30001 - 1", "FALSE"}) {
            Check.good("LET START() BE $( LET v = VEC " + k + "; FINISH $)");
        }
        for (String k : new String[] {"^30001", "^-1", "^TRUE", "^0 - 1", "^30000 + 1", "^(30001)", "^#X80000000", "^#X7FFFFFFF"}) {
            Check.fault("LET START() BE $( LET v = VEC " + k + "; FINISH $)", 6);
            Check.fault("LET START() BE $( LET a, v, b = 1, VEC " + k + ", 2; FINISH $)", 6);
        }
        // A K + 1 words: the last one is its own, the next one another name's.
        Check.does("LET a, v, b = 1, VEC 0, 2; LET w = 3; !v := 9; WRITEN(@w - v); WRITEN(v - @b); WRITEN(a + b + w)", "116");
        Check.ends(32768, "LET START() BE $( LET v = VEC 30000; v!30000 := 7; WRITEN(v); WRITEN(v!30000 + v!0) $)", 0, "1047");
        // Other K's have no such bounds.
        Check.prints("MANIFEST $( M = 30001; N = -1 $); STATIC $( S = 30001; T = #X80000000 $); LET START() BE WRITEN(M + N + S + (TABLE 30001)!0)", "90002");
    }

    private static int leftward(int a, int by) {
        return by < 0 || by > 31 ? 0 : a << by;
    }

    private static int rightward(int a, int by) {
        return by < 0 || by > 31 ? 0 : a >>> by;
    }

    /** "<< >> by 0 .. 31 (shifted in 0s; others: 0)", in a K and in a run. */
    private static void shifts() {
        int[] bys = {-2147483648, -33, -32, -31, -1, 0, 1, 30, 31, 32, 33, 63, 64, 65, 2147483647};
        StringBuilder constants = new StringBuilder();
        StringBuilder worked = new StringBuilder();
        StringBuilder due = new StringBuilder();
        for (int a : new int[] {-1, 1, 5, -2147483648}) {
            for (int by : bys) {
                String number = "#X" + Integer.toHexString(by).toUpperCase();
                constants.append("; WRITEN((TABLE ").append(a).append(" << ").append(number).append(")!0); WRITEN((TABLE ").append(a).append(" >> ").append(number).append(")!0)");
                worked.append("; b := ").append(number).append("; WRITEN(a << b); WRITEN(a >> b)");
                due.append(leftward(a, by)).append(rightward(a, by));
            }
            Check.does("LET a = " + a + constants, due.toString());
            Check.does("LET a, b = " + a + ", 0" + worked, due.toString());
            constants.setLength(0);
            worked.setLength(0);
            due.setLength(0);
        }
    }

    /** "/ and REM towards 0 (by 0: error 3; the least by -1: itself, 0)"; in a K "a division by 0 that is worked (at the sign)". */
    private static void divisions() {
        int[] numbers = {-2147483648, -2147483647, -8, -7, -1, 0, 1, 7, 8, 2147483647};
        for (int a : numbers) {
            for (int b : new int[] {-2147483648, -7, -2, -1, 1, 2, 7, 2147483647}) {
                String due = (b == -1 ? -a : a / b) + " " + (b == -1 ? 0 : a % b);
                Check.does("LET a, b = " + a + ", " + b + "; WRITEN(a / b); WRCH(32); WRITEN(a REM b)", due);
                Check.does("LET t = TABLE " + a + " / (" + b + "), " + a + " REM (" + b + "); WRITEN(t!0); WRCH(32); WRITEN(t!1)", due);
            }
            Check.fails(Check.start("LET a, b = " + a + ", 0; WRITEN(1); WRITEN(a / b)"), 3, "1");
            Check.fails(Check.start("LET a, b = " + a + ", 0; WRITEN(1); WRITEN(a REM b)"), 3, "1");
            Check.fault("MANIFEST $( M = " + a + " ^/ 0 $)" + GO, 6);
            Check.fault("MANIFEST $( M = " + a + " ^REM (1 - 1) $)" + GO, 6);
        }
        // Worked or not.
        for (String k : new String[] {"0 -> 1 / 0, 2", "1 -> 2, 1 REM 0", "2 < 1 < 1 / 0", "1 = 2 = (3 / 0)", "0 -> (1 -> 1 / 0, 1), 2", "3 > 2 > 1 > 1 > 1 / 0", "1 -> (0 -> 1 / 0, 2), 1 / 0"}) {
            Check.good("MANIFEST $( M = " + k + " $)" + GO);
            Check.does("LET x = " + k + "; WRITEN(x = (TABLE " + k + ")!0)", "-1");
        }
        for (String k : new String[] {"1 -> 1 ^/ 0, 2", "0 -> 2, 1 ^REM 0", "1 < 2 < 1 ^/ 0", "2 > 1 ^/ 0", "0 & 1 ^/ 0", "-1 | 1 ^/ 0", "0 * (1 ^/ 0)", "(1 ^/ 0) -> 1, 2", "2 < 1 < 3 & 1 ^/ 0",
            "(2 < 1 < 3) + 1 ^/ 0", "2 < 1 -> 3, 1 ^/ 0", "1 < 2 -> 5 ^/ 0, 1"}) {
            Check.fault("MANIFEST $( M = " + k + " $)" + GO, 6);
            Check.fails(Check.start("WRITEN(1); WRITEN(" + k.replace("^", "") + ")"), 3, "1");
        }
    }

    /** "Arithmetic wraps", in a K and in a run. */
    private static void wrapping() {
        String[][] rows = {{"2147483647 + 1", "-2147483648"}, {"-2147483648 - 1", "2147483647"}, {"65536 * 65536", "0"}, {"65535 * 65537", "-1"}, {"-(-2147483648)", "-2147483648"},
            {"2147483647 * 2147483647", "1"}, {"-2147483648 * -1", "-2147483648"}, {"4294967295 + 1", "0"}, {"46341 * 46341", "-2147479015"}, {"~(-2147483648)", "2147483647"},
            {"2147483647 < -2147483648", "0"}, {"2147483647 - -1 < 0", "-1"}, {"-2147483648 <= -2147483648 < 2147483647", "-1"}};
        for (String[] row : rows) {
            Check.does("WRITEN(" + row[0] + "); WRCH(32); WRITEN((TABLE " + row[0] + ")!0)", row[1] + " " + row[1]);
        }
    }

    /** "more than 1500 words of statics, routines' names, strings and tables". */
    private static void words() {
        // START's name, F's name, and so many strings without a byte: a word each.
        String head = "LET START() BE FINISH; LET F() = \"\"";
        String most = head + Check.times("+\"\"", 1497);
        Check.due("1500 words", Check.compiled(most), "ok 1600");
        String[] ones = {"STATIC $( A = 1 $)", "LET G() = 1", "LET G() BE $( STATIC $( A = 1 $); FINISH $)", "LET G() = \"\"", "LET G() = TABLE 1"};
        for (String one : ones) {
            Check.fault(most + "; " + one, 7, 0);
        }
        String less = head + Check.times("+\"\"", 1496);
        Check.due("1500 with a static", Check.compiled(less + "; STATIC $( A = 1 $)"), "ok 1600");
        Check.fault(less + "; STATIC $( A = 1; B = 2 $)", 7, 0);
        Check.due("1500 with a routine", Check.compiled(less + "; LET G() = 1"), "ok 1600");
        Check.fault(less + "; LET G() = 1 AND H() = 1", 7, 0);
        Check.fault(less + "; LET G() BE $( LET H() = 1; FINISH $)", 7, 0);
        String two = head + Check.times("+\"\"", 1495);
        Check.due("1500 with a string of three", Check.compiled(two + "; LET G() = \"abc\""), "ok 1600");
        Check.fault(two + "; LET G() = \"abcd\"", 7, 0);
        Check.due("1500 with a table of one", Check.compiled(two + "; LET G() = TABLE 1"), "ok 1600");
        Check.fault(two + "; LET G() = TABLE 1, 2", 7, 0);
        // What takes none.
        Check.due("what takes none", Check.compiled("GLOBAL $( X: 0; Y: 99 $); MANIFEST $( M = 1 $); " + most + "; LET X(a, b) = a; LET Y() BE FINISH"), "ok 1600");
        Check.fault("GLOBAL $( X: 0 $); " + most + "; LET X() BE $( LET G() = 1; FINISH $)", 7, 0);
        Check.due("nor variables, labels and vectors", Check.compiled(most.replace("FINISH", "$( LET a, v = 1, VEC 5; L: FOR i = 1 TO 2 DO GOTO L $)")), "ok 1600");
        Check.due("two words alone", Check.compiled("LET START() = \"\""), "ok 102");
        Check.due("one word alone", Check.compiled("LET START() = 1"), "ok 101");
        Check.due("none at all", Check.compiled("GLOBAL $( START: 0 $); LET START() = 1"), "ok 100");
    }

    /** "from 100 on, in the order of the text, a word for each static name and routine, the words of each TABLE, and each string". */
    private static void whereWordsLie() {
        WordTongue x = new WordTongue();
        String text = "STATIC $( A = 11; B = 12 $); LET F(t) = TABLE 21, 22, 23; STATIC $( C = -1 $); GLOBAL $( H: 50 $); LET START() BE $( LET s = \"abcd\"; STATIC $( D = 31 $)"
            + "; LET G() = \"\" AND I() = TABLE 41; WRITES(\"xyz\"); C := F(\"\") $); LET H() = \"q\"; MANIFEST $( M = 3 $); STATIC $( E = M $)";
        int[] due = {11, 12, 1000000, 21, 22, 23, 103, 1000001, 4 | 'a' << 8 | 'b' << 16 | 'c' << 24, 'd', 31, 1000002, 0, 1000003, 41, 3 | 'x' << 8 | 'y' << 16 | 'z' << 24, 0, 1 | 'q' << 8, 3};
        Check.due("words", Check.compile(x, text), 100 + due.length);
        Check.due("run", x.run(100), 0);
        for (int i = 0; i < due.length; i++) {
            Check.due("word " + (100 + i), x.word(100 + i), due[i]);
        }
        Check.due("H's entry is the global's", x.word(50), 1000004);
        for (int i = 0; i < 100; i++) {
            Check.due("global " + i, x.word(i), i == 50 ? 1000004 : 0);
        }
        Check.due("behind them START's frame", x.word(100 + due.length), 0);
        Check.due("its entry", x.word(101 + due.length), 1000001);
    }

    /** "200 routines": those of blocks, and those of GLOBALs, count, too. */
    private static void routines() {
        StringBuilder all = new StringBuilder("LET START() BE FINISH");
        for (int i = 2; i <= 199; i++) {
            all.append(";LET R").append(i).append("()=1");
        }
        String most = all.toString();
        Check.due("200 routines", Check.compiled(most + "; LET A() = 1"), "ok 300");
        Check.fault(most + "; LET A() = 1 AND B() BE FINISH", 7, 0);
        Check.fault(most + "; LET A() BE $( LET B() = 1; FINISH $)", 7, 0);
        Check.fault(most + "; LET A() = VALOF $( LET B() = 1; RESULTIS B() $)", 7, 0);
        Check.due("200 with a global's", Check.compiled("GLOBAL $( A: 1 $); " + most + "; LET A() = 1"), "ok 299");
        Check.fault("GLOBAL $( A: 1; B: 2 $); " + most + "; LET A() = 1; LET B() = 2", 7, 0);
        Check.prints(most.replace("FINISH", "WRITEN(A())").replace("LET START", "STATIC $( A = 1000199 $); LET START") + "; LET Z() = 77", "77");
    }

    /** "a routine whose frame may come to more than 32000 words". */
    private static void frames() {
        // Two words, two names and their vectors come to 31999: one word is left.
        String head = "LET START() BE $( LET v, w = VEC 30000, VEC 1993; ";
        Check.good(head + "LET a = 1 $)");
        Check.fault(head + "LET a, b = 1, 2 $)", 7, 0);
        Check.fault(head + "LET a = 1; LET b = 2 $)", 7, 0);
        Check.fault(head + "LET a = VEC 0 $)", 7, 0);
        Check.fault(head + "FOR i = 1 TO 2 DO FINISH $)", 7, 0);
        Check.good("LET START() BE $( LET v, w = VEC 30000, VEC 1992; FOR i = 1 TO 2 DO FINISH; FOR j = 1 TO 2 DO FINISH; LET1: FINISH $)");
        Check.fault("LET START() BE $( LET v, w = VEC 30000, VEC 1992; FOR i = 1 TO 2 DO FOR j = 1 TO 2 DO FINISH $)", 7, 0);
        Check.good(head + "$( LET a = 1 $); $( LET b = 1; FINISH $); IF v $( LET c = 1 $); SWITCHON v INTO $( CASE 1: $( LET d = 1 $) $); v := VALOF $( LET e = 1; RESULTIS e $) $)");
        for (String block : new String[] {"$( LET a, b = 1, 2 $)", "IF v $( LET a, b = 1, 2 $)", "$( LET a = 1; $( LET b = 1 $) $)", "v := VALOF $( LET a, b = 1, 2; RESULTIS a $)",
            "SWITCHON v INTO $( CASE 1: $( LET a, b = 1, 2 $) $)", "$( LET a, b = 1, 2 $) REPEAT", "FINISH; $( LET a = VEC 0 $)", "$( LET a = 1; v := VALOF $( LET b = 1; RESULTIS b $) $)"}) {
            Check.fault(head + block + " $)", 7, 0);
        }
        // Parameters count; arguments, and what an E is on its way with, don't.
        Check.good(head.replace("START()", "START(p)") + "FINISH $)");
        Check.fault(head.replace("START()", "START(p, q)") + "FINISH $)", 7, 0);
        Check.fault(head.replace("START()", "START(p)") + "LET a = 1 $)", 7, 0);
        Check.good(head + "LET a = v(1, 2, 3, 4 + (5 * (6 - v(7)))) $)");
        // The I's are worked ahead of the LET's own words.
        Check.good(head + "LET a = VALOF $( LET b = 1; RESULTIS b $) $)");
        Check.fault(head + "LET a = VALOF $( LET b, c = 1, 2; RESULTIS b $) $)", 7, 0);
        // Each routine for itself, whether it is called or not.
        Check.good("LET START() BE $( LET v = VEC 30000; LET F() BE $( LET w = VEC 30000; FINISH $); FINISH $)");
        Check.good("LET START() BE FINISH; LET F() BE $( LET v, w = VEC 30000, VEC 1994 $)");
        Check.fault("LET START() BE FINISH; LET F() BE $( LET v, w = VEC 30000, VEC 1995 $)", 7, 0);
        Check.fault("LET START() BE $( LET F() BE $( LET v, w = VEC 30000, VEC 1995 $); FINISH $)", 7, 0);
        // The largest frame runs where it has room, and there alone.
        String largest = "LET START() BE $( LET v, w = VEC 30000, VEC 1994; w!1994 := 5; WRITEN(w!1994) $)";
        Check.ends(32768, largest, 0, "5");
        Check.ends(16384, largest, 5, "");
    }

    /** "WRITEN .. READN are there from outside, as entries 2000000 on ...; those of the text's routines are 1000000 on, as their names stand in the text". */
    private static void entries() {
        String text = "LET A() = 11; LET START() BE $( LET B() = 12 AND C() = VALOF $( LET D() = 13; RESULTIS D $); WRITEN(# (1)) $); LET E() = 14";
        String[] dues = {"11", "", "12", "1000004", "13", "14"};
        for (int i = 0; i < dues.length; i++) {
            if (i != 1) {
                Check.prints(text.replace("#", "" + (1000000 + i)), dues[i]);
            }
        }
        for (int none : new int[] {999999, 1000006, 1000007, 1999999, 2000018, 2000019, 0, -1, 1, 2147483647, -2147483648}) {
            Check.fails(text.replace("#", "(" + none + ")"), 4, "");
            Check.fails(text.replace("# (1)", "APTOVEC(" + none + ", 1)"), 4, "");
        }
        Check.does("2000000(5); WRITEN(2000006(-5)); 2000017()", "55");
        Check.prints("LET F() = 1; LET START() BE WRITEN(1000000())", "1");
        Check.fails("LET F() = 1; LET START() BE WRITEN(1000002())", 4, "");
    }

    /** "In one block (the text; a parameter list; a section's labels with it) no name twice, but one such routine of a GLOBAL". */
    private static void blocks() {
        String[] sorts = {"GLOBAL $( #: 1 $)", "MANIFEST $( # = 1 $)", "STATIC $( # = 1 $)", "LET #() = 1", "LET #() BE FINISH", "LET # = 1", "LET # = VEC 1", "LET q, # = 1, 2"};
        for (int i = 0; i < sorts.length; i++) {
            for (int j = 0; j < sorts.length; j++) {
                String one = sorts[i].replace("#", "x");
                String other = sorts[j].replace("q", "r");
                Check.fault("LET START() BE $( " + one + "; " + other.replace("#", "^x") + "; FINISH $)", 4);
                Check.good("LET START() BE $( " + one + "; " + other.replace("#", "y") + "; FINISH $)");
                Check.good("LET START() BE $( " + one + "; $( " + other.replace("#", "x") + "; FINISH $) $)");
                boolean ofTheText = i < 5 && j < 5;
                if (ofTheText && !(i == 0 && j >= 3)) {
                    Check.fault(one + "; " + other.replace("#", "^x") + GO, 4);
                } else if (ofTheText) {
                    Check.good(one + "; " + other.replace("#", "x") + GO);
                    Check.fault(one + "; " + other.replace("#", "x") + "; " + other.replace("#", "^x") + GO, 4);
                    Check.fault(one + "; LET x() = 1 AND ^x() = 2" + GO, 4);
                }
            }
            // A label is there from its section's beginning: the second one is told where it stands.
            Check.fault("LET START() BE $( " + sorts[i].replace("#", "x") + "; ^x: FINISH $)", 4);
            Check.good("LET START() BE $( " + sorts[i].replace("#", "x") + "; $( x: FINISH $) $)");
            Check.fault("LET START() BE $( $( LET x, y = 1, 2; FINISH $); $( " + sorts[i].replace("#", "z") + "; ^z: FINISH $) $)", 4);
        }
        Check.fault("LET START(x, y, ^x) BE FINISH", 4);
        Check.fault("LET START(x, ^x, x) BE FINISH", 4);
        Check.good("LET START(x, y) BE $( LET x, y = 1, 2; FINISH $)");
        Check.good("LET START(x) BE $( x: FINISH $)");
        Check.good("LET START(START) BE FINISH");
        Check.good("LET START(x) BE FOR x = 1 TO x DO FOR x = x TO 2 DO $( LET x = x; x := 1 $)");
        Check.good("LET WRITEN(WRCH) BE $( LET WRITES = 1; READN: FINISH $)" + GO);
    }

    /** "a LABEL: its place (in the whole section, from its beginning)"; GOTO: none outside the innermost VALOF, or of another routine. */
    private static void labels() {
        Check.does("LET x = 0; L: x := x + 1; WRITEN(VALOF RESULTIS x); IF x < 3 GOTO L", "123");
        Check.does("LET x = 0; LET F() = 7; L: x := x + F(); WRITEN(x); IF x < 20 GOTO L", "71421");
        Check.does("LET x = VALOF $( LET y = 0; M: y := y + VALOF $( LET z = 0; N: z := z + 1; IF z < 3 GOTO N; RESULTIS z $); IF y < 7 GOTO M; RESULTIS y $); L: WRITEN(x); x := x + 50; IF x < 100 GOTO L", "959");
        Check.does("LET x = 0; L: $( LET F() = VALOF $( LET z = 5; M: z := z + 1; IF z < 9 GOTO M; RESULTIS z $); x := x + F() $); WRITEN(x); IF x < 20 GOTO L", "91827");
        String[] outside = {"x := VALOF GOTO ^L", "x := VALOF $( $( GOTO ^L $) $)", "x := 1 + (VALOF GOTO ^L)", "WRITEN(VALOF $( IF x GOTO ^L; RESULTIS 1 $))", "WHILE VALOF GOTO ^L DO FINISH",
            "$( LET y = VALOF GOTO ^L; FINISH $)", "$( LET F() BE GOTO ^L; F() $)", "$( LET F() = VALOF GOTO ^L; F() $)", "x := VALOF $( LET F() BE GOTO ^L; F() $)",
            "x := VALOF $( x := VALOF RESULTIS 1; GOTO ^L $)", "x := VALOF $( LET F() = 1; GOTO ^L $)"};
        for (String command : outside) {
            Check.fault("LET START() BE $( LET x = 1; L: " + command + "; FINISH $)", 6);
            Check.fault("LET START() BE $( LET x = 1; " + command + "; L: FINISH $)", 6);
            Check.fault("LET START() = VALOF $( LET x = 1; L: " + command + "; FINISH $)", 6);
            Check.good("LET START() BE $( LET x = 1; L: " + command.replace("^L", "M").replace("GOTO M", "$( GOTO M; M: FINISH $)") + "; GOTO L $)");
        }
        // A routine within a VALOF within another routine: its number is none of those around.
        Check.fault("LET START() BE $( LET x = 1; L: x := VALOF $( M: x := VALOF $( LET F() BE GOTO ^M; F() $) $) $)", 6);
        Check.fault("LET START() BE $( LET F() BE $( L: FINISH; $( LET x = VALOF $( LET G() BE GOTO ^L; G() $); FINISH $) $); F() $)", 6);
        Check.fault("LET START() BE $( GOTO ^L; $( L: FINISH $) $)", 3);
        Check.fault("LET START() BE $( SWITCHON 1 INTO $( CASE 1: L: FINISH $); GOTO ^L $)", 3);
        Check.does("SWITCHON 1 INTO $( CASE 1: GOTO L; WRITEN(1); L: WRITEN(2) $)", "2");
    }

    /** BREAK, LOOP, ENDCASE, RESULTIS and RETURN: within, and just outside. */
    private static void loopsAndSwitches() {
        String[] loops = {"WHILE x DO #", "UNTIL x DO #", "FOR i = 1 TO 2 DO #", "# REPEAT", "# REPEATWHILE x", "# REPEATUNTIL x", "# REPEATUNTIL x REPEAT"};
        for (String word : new String[] {"BREAK", "LOOP"}) {
            for (String loop : loops) {
                String in = "LET START() BE $( LET x = 1; " + loop + "; FINISH $)";
                Check.good(in.replace("#", word));
                Check.good(in.replace("#", "$( IF x $( " + word + " $) $)"));
                Check.good(in.replace("#", "SWITCHON x INTO $( CASE 1: " + word + " $)"));
                Check.fault(in.replace("#", "$( x := VALOF ^" + word + " $)"), 6);
                Check.fault(in.replace("#", "$( LET f() BE ^" + word + "; f() $)"), 6);
                Check.fault(in.replace("#", "$( x := VALOF $( RESULTIS 1 $); " + word + "; x := VALOF ^" + word + " $)"), 6);
                Check.fault(in.replace("#", "FINISH").replace("; FINISH $)", "; ^" + word + " $)"), 6);
                Check.good("LET START() BE $( LET x = VALOF $( LET x = 1; " + loop.replace("#", word) + "; RESULTIS 1 $); FINISH $)");
            }
            Check.fault("LET START() BE $( LET x = 1; WHILE VALOF ^" + word + " DO FINISH $)", 6);
            Check.fault("LET START() BE $( LET x = 1; FINISH REPEATWHILE VALOF ^" + word + " $)", 6);
        }
        Check.fault("LET START(x) BE $( WHILE x DO ^ENDCASE $)", 6);
        Check.fault("LET START(x) BE $( SWITCHON VALOF ^ENDCASE INTO $( $) $)", 6);
        Check.fault("LET START(x) BE $( SWITCHON x INTO $( CASE 1: x := VALOF ^ENDCASE $) $)", 6);
        Check.fault("LET START(x) BE $( SWITCHON x INTO $( CASE 1: $( LET f() BE ^ENDCASE; f() $) $) $)", 6);
        Check.good("LET START(x) BE SWITCHON x INTO $( CASE 1: WHILE x DO IF x ENDCASE $)");
        Check.fault("LET START(x) BE $( x := VALOF RESULTIS 1; ^RESULTIS 2 $)", 6);
        Check.fault("LET START(x) = VALOF $( LET f() BE ^RESULTIS 1; f() $)", 6);
        Check.fault("LET START(x) = VALOF $( LET f() = VALOF RESULTIS 1; ^RETURN $)", 6);
        Check.good("LET START(x) BE x := VALOF $( IF x RETURN; RESULTIS 2 $)");
    }

    /** "these first, the first of them from the left; then of the others the one at the least place (of one place the lowest)". */
    private static void placesOfFaults() {
        Check.fault("LET START() BE $( ^x := 1; y := 2 $)", 3);
        Check.fault("LET START() BE $( ^BREAK; x := 2 $)", 6);
        Check.fault("LET START() BE $( x := 1; y := ^$)", 2);
        Check.fault("LET START() BE $( x := 1; y := ^? $)", 1);
        Check.fault("LET START() BE $( x := 1; ^) ? $)", 2);
        Check.fault("LET START() BE $( x := 1; ^? ) $)", 1);
        Check.fault("LET F() BE ^x := 1", 3);
        Check.fault("LET F() BE FINISH", 7, 0);
        // 7 is last, though its place be 0.
        Check.fault("LET START() BE $( LET v, w = VEC 30000, VEC 30000; ^x := 1 $)", 3);
        Check.fault("LET F() BE $( LET a, ^a = VEC 30000, VEC 30000; FINISH $)", 4);
        // Of one place the lowest: 3 and 6, 5 and 6.
        Check.fault("LET START() BE ^x + 1 := 1", 3);
        Check.fault("LET START(a) BE $( LET f() BE ^a + 1 := 2; FINISH $)", 5);
        Check.fault("LET START(a) BE $( LET f() = @^a(1); FINISH $)", 5);
        Check.fault("LET START() BE $( LET v = VEC ^x; FINISH $)", 3);
        // The order in which things are asked tells nothing: a call's routine stands ahead, a left side, too.
        Check.fault("LET START() BE ^x(y)", 3);
        Check.fault("LET START() BE ^x := y", 3);
        Check.fault("LET START() BE FOR i = ^x TO y BY z DO FINISH", 3);
        Check.fault("LET START() BE FOR i = 1 TO ^y BY z DO FINISH", 3);
        Check.fault("LET START() BE $( L: FINISH; ^x := 1; L: FINISH $)", 3);
        Check.fault("LET START() BE $( LET F() = ^x; LET F() = 2; FINISH $)", 3);
        Check.fault("LET START() BE FOR i = TABLE ^x TO 2 BY y DO FINISH", 3);
        // At place 0, and at the text's last byte.
        Check.fault("?", 1, 0);
        Check.fault(")", 2, 0);
        Check.fault("LET START() = ^x", 3);
    }

    /** "a second DEFAULT or the same K in one (at the DEFAULT, the K's first token)". */
    private static void sameCases() {
        String[][] same = {{"1", "1"}, {"0", "FALSE"}, {"-1", "TRUE"}, {"#X80000000", "-2147483648"}, {"2147483647", "#X7FFFFFFF"}, {"4294967295", "-1"}, {"'A'", "65"}, {"1 + 1", "2"}, {"2147483647 + 1", "1 << 31"}};
        for (String[] two : same) {
            Check.fault("LET START() BE SWITCHON 1 INTO $( CASE " + two[0] + ": CASE 77: CASE ^" + two[1] + ": FINISH $)", 6);
            Check.fault("LET START() BE SWITCHON 1 INTO $( CASE " + two[1] + ": FINISH; DEFAULT: FINISH; CASE ^" + two[0] + ": FINISH $)", 6);
            Check.good("LET START() BE SWITCHON 1 INTO $( CASE " + two[0] + ": SWITCHON 2 INTO $( CASE " + two[1] + ": DEFAULT: $); DEFAULT: FINISH $)");
            Check.does("SWITCHON " + two[0] + " INTO $( CASE " + two[1] + ": WRITEN(5); ENDCASE; DEFAULT: WRITEN(6) $)", "5");
            Check.does("SWITCHON " + two[0] + " + 1 INTO $( CASE " + two[1] + ": WRITEN(5); ENDCASE; DEFAULT: WRITEN(6) $)", "6");
            Check.does("SWITCHON " + two[0] + " - 1 INTO $( CASE " + two[1] + ": WRITEN(5) $)", "");
        }
        Check.fault("LET START() BE SWITCHON 1 INTO $( DEFAULT: ^DEFAULT: FINISH $)", 6);
        Check.fault("LET START() BE SWITCHON 1 INTO $( DEFAULT: CASE 1: FINISH; ^DEFAULT: FINISH $)", 6);
        Check.fault("LET START() BE SWITCHON 1 INTO $( DEFAULT: SWITCHON 1 INTO $( DEFAULT: $); ^DEFAULT: FINISH $)", 6);
    }
}
