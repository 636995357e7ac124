/** What names mean, and where: faults 3, 4, 5, and those of fault 6 that names and K's have (promises 4 and 5). */
public final class NamesTest {
    private static final String GO = "; LET START() BE FINISH";

    public static void main(String[] args) {
        unknown();
        fromWhere();
        twice();
        globals();
        outerVariables();
        labels();
        constants();
        constantFaults();
        leastPlace();
        Check.end();
    }

    /** A fault within START's block. */
    private static void no(String commands, int fault) {
        Check.fault("LET START() BE $( " + commands + " $)", fault);
    }

    private static void yes(String commands) {
        Check.good("LET START() BE $( " + commands + " $)");
    }

    private static void unknown() {
        no("^x := 1", 3);
        no("WRITEN(^x)", 3);
        no("^F(1)", 3);
        no("WRITEN(1 + (2 -> 3, ^x))", 3);
        no("GOTO ^x", 3);
        no("WRITEN(@^x)", 3);
        no("WRITEN(!^x)", 3);
        no("LET y = ^x", 3);
        no("LET y = VEC ^x", 3);
        no("SWITCHON 1 INTO $( CASE ^x: FINISH $)", 3);
        no("FOR i = 1 TO 2 BY ^x DO FINISH", 3);
        no("RESULTIS ^x".replace("RESULTIS", "WRITEN(VALOF RESULTIS").concat(")"), 3);
        Check.fault("STATIC $( A = ^B $)" + GO, 3);
        Check.fault("GLOBAL $( A: ^B $)" + GO, 3);
        Check.fault("MANIFEST $( A = 1 + ^B $)" + GO, 3);
        Check.fault("LET START() = TABLE 1, ^x", 3);
        no("^writen(1)", 3);
    }

    private static void fromWhere() {
        // Variables: from behind their own LET on.
        no("LET x = ^x", 3);
        no("LET x, y = 1, ^x", 3);
        yes("LET x = 1; LET y = x");
        Check.does("LET x = 1; $( LET x, y = x + 1, x + 2; WRITEN(x); WRITEN(y) $); WRITEN(x)", "231");
        no("$( LET x = 1 $); ^x := 2", 3);
        // Routines of a LET .. AND: from its beginning.
        Check.prints("LET START() BE WRITEN(F(4)) AND F(n) = n = 0 -> 0, 1 + G(n - 1) AND G(n) = F(n)", "4");
        Check.fault("LET START() BE WRITEN(^F(4)); LET F(n) = n", 3);
        Check.prints("LET F(n) = n < 2 -> 1, n * F(n - 1); LET START() BE WRITEN(F(6))", "720");
        no("LET F() = ^G(); LET G() = 1; FINISH", 3);
        // GLOBAL, MANIFEST and STATIC names: from their D's beginning.
        Check.prints("STATIC $( A = 1 $); LET START() BE $( LET F() = A; STATIC $( A = 2 $); LET G() = A; WRITEN(F()); WRITEN(G()) $)", "12");
        Check.prints("MANIFEST $( A = 1; B = A + 1; C = B * B $); LET START() BE WRITEN(C)", "4");
        no("WRITEN(^M); $( MANIFEST $( M = 1 $) $)", 3);
        // Parameters and FOR's N.
        Check.prints("STATIC $( a = 9 $); LET F(a) = a + 1; LET START() BE $( WRITEN(F(2)); WRITEN(a) $)", "39");
        no("FOR i = ^i TO 2 DO FINISH", 3);
        no("FOR i = 1 TO ^i DO FINISH", 3);
        no("FOR i = 1 TO 2 DO FINISH; ^i := 1", 3);
        no("FOR i = 1 TO 2 BY ^i DO FINISH", 3);
        Check.does("LET i = 3; FOR i = i TO i + 1 DO WRITEN(i); WRITEN(i)", "343");
        // The innermost one counts; a library's name is there from outside.
        Check.does("LET x = 1; $( LET x = 2; FOR x = 3 TO 3 DO $( LET x = 4; WRITEN(x) $); WRITEN(x) $); WRITEN(x)", "421");
        Check.prints("LET WRITES(n) BE WRITEN(n + 1); LET START() BE WRITES(4)", "5");
        Check.does("LET WRITEN = WRCH; WRITEN('a')", "a");
        Check.does("WRITEN(WRITEN); WRCH(' '); WRITEN(READN); WRCH(' '); WRITEN(START)", "2000000 2000017 1000000");
        String[] library = {"WRITEN", "WRITES", "WRCH", "NEWLINE", "RDCH", "STOP", "ABS", "UNRDCH", "SELECTINPUT", "SELECTOUTPUT", "REWIND",
            "GETVEC", "FREEVEC", "APTOVEC", "MULDIV", "WRITED", "WRITEHEX", "READN"};
        for (int i = 0; i < library.length; i++) {
            Check.does("WRITEN(" + library[i] + ")", "" + (2000000 + i));
        }
        Check.prints("LET A() = 1; LET START() BE $( LET B() = 1 AND C() BE $( LET D() = 1 $); WRITEN(A - 1000000); WRITEN(START REM 10); WRITEN(B REM 10); WRITEN(C REM 10); WRITEN(E REM 10) $) AND E() = 1", "01235");
    }

    private static void twice() {
        no("LET x, ^x = 1, 2", 4);
        no("LET x = 1; LET ^x = 2", 4);
        no("LET x = 1; LET ^x() = 2", 4);
        no("LET x() = 1 AND ^x() = 2", 4);
        no("STATIC $( A = 1; ^A = 2 $)", 4);
        no("STATIC $( A = 1 $); MANIFEST $( ^A = 2 $)", 4);
        no("L: ; ^L: ;", 4);
        no("LET x = 1; ^x: FINISH", 4);
        no("LET x = 1; LET ^x = 2; x: FINISH", 4);
        no("LET x = 1; ^x: FINISH; x: FINISH", 4);
        no("SWITCHON 1 INTO $( L: FINISH; ^L: FINISH $)", 4);
        Check.fault("LET F(a, b, ^a) = 1" + GO, 4);
        Check.fault("LET START() BE FINISH; LET ^START() BE FINISH", 4);
        Check.fault("STATIC $( A = 1 $); GLOBAL $( ^A: 2 $)" + GO, 4);
        Check.fault("GLOBAL $( A: 1 $); GLOBAL $( ^A: 1 $)" + GO, 4);
        Check.fault("LET F() = 1; GLOBAL $( ^F: 1 $)" + GO, 4);
        Check.fault("STATIC $( F = 1 $); LET ^F() = 1" + GO, 4);
        Check.fault("MANIFEST $( F = 1 $); LET ^F() = 1" + GO, 4);
        Check.fault("GLOBAL $( F: 1 $); LET F() = 1; LET ^F() = 2" + GO, 4);
        Check.fault("GLOBAL $( F: 1 $); LET F() = 1 AND ^F() = 2" + GO, 4);
        Check.fault("LET START() BE $( GLOBAL $( F: 1 $); LET ^F() = 1; FINISH $)", 4);
        // Of two the first one counts.
        Check.fault("MANIFEST $( A = 1; B = A; ^A = 2 $)" + GO, 4);
        no("LET x = 1; x := 2; ^x: FINISH", 4);
        // Blocks of their own.
        Check.good("LET F(a) BE $( LET a = 1; a := 2 $)" + GO);
        Check.good("LET F(F) BE $( LET START = 1; START := 2 $)" + GO);
        yes("LET x = 1; $( LET x = 1; x := 1 $); FOR x = 1 TO 2 DO $( LET x = 1; x := 1 $)");
        yes("L: $( L: FINISH $); SWITCHON 1 INTO $( L: FINISH; $( L: $) $)");
        Check.good("LET F(a) BE $( a: GOTO a $)" + GO);
    }

    private static void globals() {
        WordTongue x = new WordTongue();
        Check.due("words of a global routine", Check.compile(x, "GLOBAL $( F: 7; G: 8 $); LET F() BE G := 3; LET START() BE F()"), 101);
        Check.due("run", x.run(10), 0);
        Check.due("the global has the entry", x.word(7), 1000000);
        Check.due("the other global", x.word(8), 3);
        Check.due("START's own word", x.word(100), 1000001);
        // Of two globals of one K the later routine's entry is there.
        Check.prints("GLOBAL $( F: 7; G: 7 $); LET F() = 1; LET G() = 2; LET START() BE $( WRITEN(F()); WRITEN(G()) $)", "22");
        Check.prints("GLOBAL $( F: 7; G: 7 $); LET G() = 2; LET F() = 1; LET START() BE $( WRITEN(F()); WRITEN(G()) $)", "11");
        // A global that is declared behind the routine is none of it; nor one of a block.
        Check.prints("GLOBAL $( G: 5 $); LET F() BE $( GLOBAL $( H: 5; Z: 6 $); H := H + 1; Z := Z + 2 $); LET START() BE $( F(); F(); WRITEN(G); WRITEN(!6) $)", "24");
        // A D of a block makes no routine of the text a global's, nor does a D of the text one of a block.
        Check.due("a block's GLOBAL", Check.compiled("LET F() BE $( GLOBAL $( G: 5 $); G := 7 $); LET G() = 1; LET START() BE FINISH"), "ok 103");
        Check.prints("LET F() BE $( GLOBAL $( G: 5 $); G := 7 $); LET G() = 1; LET START() BE $( F(); WRITEN(G()); WRITEN(!5) $)", "17");
        Check.due("a routine of a block", Check.compiled("GLOBAL $( G: 5 $); LET START() BE $( LET G() = 1; FINISH $)"), "ok 102");
        Check.prints("GLOBAL $( G: 5 $); LET START() BE $( LET G() = 1; WRITEN(G()); WRITEN(!5) $)", "10");
        Check.prints("LET START() BE $( LET F() = 4; GLOBAL $( G: 9 $); G := F; WRITEN(G()) $)", "4");
        Check.prints("GLOBAL $( START: 0 $); LET START() BE WRITEN(!0 = START)", "-1");
        Check.prints("GLOBAL $( START: 3; F: 3 $); LET START() BE WRITEN(START - 1000000); LET F() BE WRITEN(77)", "1");
        Check.fault("GLOBAL $( START: 1 $); LET F() BE FINISH", 7, 0);
        Check.prints("GLOBAL $( A: 0; B: 99 $); LET START() BE $( A, B := 3, 4; WRITEN(!0 + !99) $)", "7");
        Check.fault("GLOBAL $( A: ^100 $)" + GO, 6);
        Check.fault("GLOBAL $( A: ^-1 $)" + GO, 6);
        Check.fault("GLOBAL $( A: ^(50 + 50) $)" + GO, 6);
        Check.good("GLOBAL $( A: 99; B: 100 - 1; C: 0 $)" + GO);
    }

    private static void outerVariables() {
        no("LET x = 1; LET F() = ^x; FINISH", 5);
        no("LET x = 1; LET F() BE ^x := 1; FINISH", 5);
        no("LET x = 1; LET F() = @^x; FINISH", 5);
        no("LET x = 1; LET F() = ^x(1); FINISH", 5);
        no("LET x = 1; LET F() BE (^x) := 1; FINISH", 5);
        no("FOR i = 1 TO 2 DO $( LET F() = ^i; FINISH $)", 5);
        Check.fault("LET F(a) BE $( LET G() = ^a; FINISH $)" + GO, 5);
        Check.fault("STATIC $( a = 1 $); LET F(a) BE $( LET G() = ^a; FINISH $)" + GO, 5);
        // In a K, and behind GOTO, 6 alone.
        no("LET x = 1; LET F() BE GOTO ^x; FINISH", 6);
        no("LET x = 1; LET F() = TABLE ^x; FINISH", 6);
        no("LET x = 1; MANIFEST $( M = ^x $); FINISH", 6);
        no("LET x = 1; GOTO ^x", 6);
        // Statics, globals, manifests and routines are there.
        Check.does("STATIC $( s = 1 $); MANIFEST $( m = 2 $); GLOBAL $( g: 3 $); LET F() = 4; LET G() = s + m + g + F(); WRITEN(G())", "7");
        Check.does("LET x = 1; LET F() BE $( LET x = 5; WRITEN(x) $); F(); WRITEN(x)", "51");
    }

    private static void labels() {
        Check.does("LET i = 0; L: i := i + 1; WRITEN(i); IF i < 3 GOTO L", "123");
        Check.does("GOTO M; L: WRITEN(1); FINISH; M: WRITEN(2); GOTO L", "21");
        Check.does("$( GOTO OUT $); WRITEN(1); OUT: WRITEN(2)", "2");
        Check.does("FOR i = 1 TO 5 DO $( IF i = 3 GOTO OUT; WRITEN(i) $); OUT:", "12");
        Check.does("SWITCHON 2 INTO $( CASE 1: L: WRITEN(1); FINISH; CASE 2: WRITEN(2); GOTO L $)", "21");
        Check.does("WRITEN(5 + VALOF $( LET i = 0; L: i := i + 1; IF i < 4 GOTO L; RESULTIS i $))", "9");
        Check.does("L: M: N: WRITEN(1); GOTO E; E: $( $)", "1");
        no("GOTO ^L; $( L: FINISH $)", 3);
        no("L: FINISH; WRITEN(^L)", 6);
        no("WRITEN(^L); L: FINISH", 6);
        no("L: ^L := 1", 6);
        no("LET L = 1; $( LET x = ^L; L: FINISH $)", 6);
        no("L: WRITEN(VALOF GOTO ^L)", 6);
        no("LET F() BE GOTO ^L; L: FINISH", 6);
        no("LET v = VALOF $( GOTO ^L $); L: FINISH", 6);
        no("GOTO ^START", 6);
        no("GOTO ^WRITEN", 6);
        no("MANIFEST $( M = 1 $); GOTO ^M", 6);
        no("FOR i = 1 TO 2 DO GOTO ^i", 6);
        no("WRITEN(VALOF $( M: WRITEN(VALOF $( GOTO ^M $)) $))", 6);
        no("L: FINISH; $( STATIC $( S = ^L $); FINISH $)", 6);
        // The innermost meaning counts, though it be no label.
        no("L: $( LET L = 1; GOTO ^L $)", 6);
    }

    private static void constants() {
        Check.prints("MANIFEST $( A = 2 + 3 * 4 - -1; B = 7 / 2; C = -7 / 2; D = -7 REM 3; E = 1 << 4; F = -1 >> 28 $); LET START() BE $( WRITEN(A); WRITEN(B); WRITEN(C); WRITEN(D); WRITEN(E); WRITEN(F) $)", "153-3-11615");
        Check.prints("MANIFEST $( A = 6 & 3; B = 6 | 3; C = 6 EQV 3; D = 6 NEQV 3; E = ~6; F = NOT 0; G = TRUE; H = FALSE; I = 'A' $); LET START() BE $( WRITEN(A); WRITEN(B); WRITEN(C); WRITEN(D); WRITEN(E); WRITEN(F); WRITEN(G); WRITEN(H); WRITEN(I) $)", "27-65-7-1-1065");
        Check.prints("MANIFEST $( A = 1 < 2 < 3; B = 1 < 3 < 2; C = 3 > 1 > 2 > 0; D = 1 = 1; E = 1 ~= 1; F = 2 >= 2; G = 2 <= 1 $); LET START() BE $( WRITEN(A); WRITEN(B); WRITEN(C); WRITEN(D); WRITEN(E); WRITEN(F); WRITEN(G) $)", "-100-10-10");
        Check.prints("MANIFEST $( A = 1 -> 2, 3; B = 0 -> 2, 3; C = 2 > 1 -> (0 -> 4, 5), 6; D = 1 -> 7, 1 / 0; E = 0 -> 1 REM 0, 8 $); LET START() BE $( WRITEN(A); WRITEN(B); WRITEN(C); WRITEN(D); WRITEN(E) $)", "23578");
        Check.prints("MANIFEST $( A = 2 < 1 < 1 / 0; B = 1 << 31; C = 1 << 32; D = 1 << -1; E = B / -1; F = B REM -1; G = 2147483647 + 1; H = 65536 * 65536 $); LET START() BE $( WRITEN(A); WRITEN(B); WRITEN(C); WRITEN(D); WRITEN(E); WRITEN(F); WRITEN(G); WRITEN(H) $)", "0-214748364800-21474836480-21474836480");
        Check.prints("MANIFEST $( A = +5; B = 2 < 1 < 3 - 1 / 1; C = 1 < 2 < 1 + 1 -> 8, 9 $); LET START() BE $( WRITEN(A); WRITEN(B); WRITEN(C) $)", "509");
        yes("LET v = VEC 30000; FINISH");
    }

    private static void constantFaults() {
        for (String bad : new String[] {"^@START", "^!1", "1 ^! 2", "1 ^% 2", "1^(2)", "1 + 2^()", "^VALOF RESULTIS 1", "^TABLE 1", "^\"a\"", "^START", "^WRITEN", "^START()",
            "1 ^/ 0", "1 ^REM 0", "1 -> 2 ^/ 0, 3", "0 -> 2, 3 ^/ (1 - 1)", "1 < 2 < 3 ^/ 0", "1 ^/ 0 < 2", "(1 ^/ 0) + (1 / 0)", "0 & 1 ^/ 0", "0 -> ^START, 1", "1 -> 1, ^START(2)",
            "1 / (0 + ^START)", "-(1 ^/ 0)", "1 ^/ 0 + START", "^START + 1 / 0"}) {
            Check.fault("MANIFEST $( Z = 0 $); LET START() BE $( MANIFEST $( M = " + bad + " $); FINISH $)", 6);
            Check.fault("STATIC $( Z = 0 $); LET START() BE $( STATIC $( M = " + bad + " $); FINISH $)", 6);
            Check.fault("LET START() BE WRITEN(TABLE 1, " + bad + ")", 6);
            Check.fault("LET START() BE SWITCHON 1 INTO $( CASE " + bad + ": FINISH $)", 6);
            Check.fault("LET START() BE $( LET v = VEC " + bad + "; FINISH $)", 6);
            Check.fault("LET START() BE FOR i = 1 TO 2 BY " + bad + " DO FINISH", 6);
            Check.fault("LET START() BE $( GLOBAL $( G: " + bad + " $); FINISH $)", 6);
        }
        // A manifest's own K must stand ahead.
        Check.fault("MANIFEST $( A = ^A $)" + GO, 6);
        Check.fault("MANIFEST $( A = ^B; B = 1 $)" + GO, 6);
        Check.fault("MANIFEST $( B = 1 $); LET START() BE $( MANIFEST $( A = ^B; B = 2 $); FINISH $)", 6);
        Check.fault("STATIC $( A = 1; B = ^A $)" + GO, 6);
        Check.fault("GLOBAL $( A: 1; B: ^A $)" + GO, 6);
        Check.fault("LET START(a) BE SWITCHON a INTO $( CASE ^a: FINISH $)", 6);
        // VEC's K: 0 .. 30000.
        Check.fault("LET START() BE $( LET v = VEC ^30001; FINISH $)", 6);
        Check.fault("LET START() BE $( LET v = VEC ^-1; FINISH $)", 6);
        Check.fault("LET START() BE $( LET v = VEC ^1 << 31; FINISH $)", 6);
        yes("LET v = VEC 0; FINISH");
        // Of a K with a fault nothing else is asked.
        Check.fault("GLOBAL $( A: 100 + ^X $)" + GO, 3);
        Check.fault("GLOBAL $( A: 1 ^/ 0 + 200 $)" + GO, 6);
        no("SWITCHON 1 INTO $( CASE 0: CASE ^X: FINISH $)", 3);
    }

    private static void leastPlace() {
        no("WRITEN(^x); LET1 := 1", 3);
        no("LET a, ^a = 1, x", 4);
        no("LET a, b = ^x, 1; LET a = 1", 3);
        no("^5 := x", 6);
        no("^x := y", 3);
        Check.fault("LET F() = ^x; LET START() BE FINISH; LET START() BE FINISH", 3);
        Check.fault("LET START() BE $( LET x = 1; LET F() BE ^x := y; x: FINISH $)".replace("^x := y; x", "x := y; ^x").replace("x := y", "FINISH"), 4);
        Check.fault("LET START() BE $( BREAK; x := 1 $)", 6, 18);
        Check.fault("LET F() BE $( WRITEN(^y); BREAK $)", 3);
        Check.fault("LET F() BE $( L: FINISH; WRITEN(^q); L: FINISH $)", 3);
        Check.fault("MANIFEST $( A = 1; B = ^C; A = 2 $)" + GO, 3);
        // A label's meaning beats the outer one, from its section's beginning.
        Check.fault("STATIC $( L = 1 $); LET START() BE $( WRITEN(^L); L: FINISH $)", 6);
        Check.fault("LET F() BE FINISH", 7, 0);
    }
}
