/** What each form does, and the errors of a run (promises 8, 9 and 12). */
public final class RunTest {
    public static void main(String[] args) {
        arithmetic();
        comparing();
        storeForms();
        assignments();
        branches();
        loops();
        switches();
        valofs();
        calls();
        ends();
        errors();
        Check.end();
    }

    private static void arithmetic() {
        Check.does("LET a, b = 2147483647, 1; WRITEN(a + b); WRITEN(-2147483647 - 2); WRITEN(65536 * 65536); WRITEN(a * 2)", "-214748364821474836470-2");
        Check.does("LET a, b = -7, 2; WRITEN(a / b); WRITEN(a REM b); WRITEN(7 / -b); WRITEN(7 REM -b); WRITEN(a / -b); WRITEN(a REM -b)", "-3-1-313-1");
        Check.does("LET m = #X80000000; WRITEN(m / -1); WRITEN(m REM -1); WRITEN(-m)", "-21474836480-2147483648");
        Check.does("LET a = -1; WRITEN(a >> 31); WRITEN(a >> 28); WRITEN(a << 31); WRITEN(a >> 32); WRITEN(a << 32); WRITEN(a >> -1); WRITEN(a << -1); WRITEN(a << 0); WRITEN(a >> 0)", "115-21474836480000-1-1");
        Check.does("LET a, b = 12, 10; WRITEN(a & b); WRITEN(a | b); WRITEN(a EQV b); WRITEN(a NEQV b); WRITEN(~a)", "814-76-13");
        Check.does("WRITEN(TRUE); WRITEN(FALSE); WRITEN(NOT TRUE)", "-100");
        // Both sides of & and | are worked; the left one first.
        Check.prints("LET F(n) = VALOF $( WRITEN(n); RESULTIS 0 $); LET START() BE $( LET x = F(1) & F(2); x := TRUE | F(3); x := F(4) + F(5) * F(6); x := F(7) = F(8); x := F(1) ! F(100 - 98) $)", "12345678" + "12");
        Check.prints("LET F(n) = VALOF $( WRITEN(n); RESULTIS n $); LET START() BE $( LET x = \"ab\" % (F(1) - F(2) + 2); WRITEN(x); x := -F(3) << F(4) $)", "129734");
    }

    private static void comparing() {
        Check.does("LET a, b = -2147483648, 2147483647; WRITEN(a < b); WRITEN(a > b); WRITEN(a <= b); WRITEN(a >= b); WRITEN(a = b); WRITEN(a ~= b)", "-10-100-1");
        Check.does("WRITEN(1 < 2 < 3 < 4); WRITEN(1 < 2 > 0 = 0); WRITEN(1 < 3 < 2); WRITEN(3 < 1 < 2); WRITEN(5 = 5 = 5); WRITEN((5 = 5) = 5)", "-1-100-10");
        // Many rows in one E.
        Check.does("FOR i = 1 TO 3 DO $( LET x = (1 < 2 < 3 & 2 < 3 < 4 & 3 < 2 < 5 | 4 < 5 < 6 < 7 | 9 > 8 > 7 & 1 = 1 = 2) + (5 > 6 > 7) + (1 < 2 < 3); WRITEN(x) $)", "-2-2-2");
        Check.does("FOR i = 1 TO 5 DO WRITEN(1 < i < 4 | i = 5 = 5 & 2 <= i <= 9)", "0-1-10-1");
        // The ones behind a false one are not worked, and each is worked once.
        Check.prints("LET F(n) = VALOF $( WRITEN(n); RESULTIS n $); LET START() BE $( LET x = F(1) < F(2) < F(3); WRCH(' '); x := F(2) < F(1) < F(3); WRCH(' '); x := F(1) < F(5) < F(4) < F(9); WRITEN(x) $)", "123 21 1540");
        Check.prints("LET F(n) = VALOF $( WRITEN(n); RESULTIS n $); LET START() BE $( LET x = F(2) < F(1) + F(7) < F(3) & F(6) | 8; WRITEN(x) $)", "217368");
        Check.does("WRITEN(1 < 2 < 3 -> 4, 5); WRITEN(1 < 2 < 1 | 6); WRITEN(7 + (3 > 2 > 1)); WRITEN((2 > 3 > 1) - 1)", "466-1");
    }

    private static void storeForms() {
        Check.does("LET v = VEC 4; LET p = v + 2; v!0, v!1, v!2, v!3, v!4 := 10, 11, 12, 13, 14; WRITEN(!p); WRITEN(p!(-2)); WRITEN((-1)!p); WRITEN(p!(-1)!0 = !11)", "121011-1");
        Check.does("LET v = VEC 1; v!0, v!1 := #X44332211, #X88776655; WRITEHEX(v%0, 2); WRITEHEX(v%3, 2); WRITEHEX(v%4, 2); WRITEHEX(v%7, 2); WRITEHEX((v+1)%(-1), 2); WRITEHEX((v+1)%(-4), 8)", "114455884400000011");
        Check.does("LET v = VEC 1; v!0, v!1 := 0, -1; v%1 := #X1FF; (v + 1)%(-1) := 2; v%6 := 3; WRITEHEX(v!0, 8); WRITEHEX(v!1, 8)", "0200FF00FF03FFFF");
        Check.does("LET t = TABLE 5, 6; t!0 := t!0 + 1; WRITEN(t!0); WRITEN(\"abc\"!0 = #X63626103)", "6-1");
        // The same table, and the same string, each time.
        Check.prints("LET T() = TABLE 1, 2; LET START() BE $( !T() := 5; WRITEN(!T()); WRITEN(T() = T()); WRITEN(\"a\" = \"a\") $)", "5-10");
        // Storing to a frame's first two words changes no way back.
        Check.prints("LET F(a) BE $( (@a)!(-1) := 77; (@a)!(-2) := 78 $); LET START(x) BE $( LET y = 3; (@x)!(-1), (@x)!(-2) := 5, 6; F(1); WRITEN(y); WRITEN((@x)!(-1)) $)", "35");
        Check.prints("LET F(a, b) = (@a)!1 + b; LET START() BE WRITEN(F(5, 6))", "12");
    }

    private static void assignments() {
        Check.does("LET a, b = 1, 2; a, b := b, a; WRITEN(a); WRITEN(b)", "22");
        Check.prints("LET F(n) = VALOF $( WRITEN(n); RESULTIS 3900 $); LET START() BE $( F(1)!F(2), F(3)!F(4) := F(5) - 3900, F(6) $)".replace("F(2)", "(F(2) - 3900)").replace("F(4)", "(F(4) - 3900)"), "512634");
        Check.does("LET v, i = VEC 3, 0; i, v!i := 2, 9; v!0 := 1; WRITEN(v!2)", "9");
        // A byte's word is looked at behind the right side and both parts of its place.
        Check.does("LET v = VEC 0; v!0 := 0; v%0 := VALOF $( v!0 := #X55667788; RESULTIS 1 $); WRITEHEX(v!0, 8)", "55667701");
        Check.does("LET v = VEC 0; v!0 := 0; v%VALOF $( v!0 := #X55667788; RESULTIS 1 $) := 2; WRITEHEX(v!0, 8)", "55660288");
    }

    private static void branches() {
        Check.does("IF 5 DO WRITEN(1); IF 0 DO WRITEN(2); UNLESS 5 DO WRITEN(3); UNLESS 0 DO WRITEN(4); TEST -1 THEN WRITEN(5) ELSE WRITEN(6); TEST 0 DO WRITEN(7) OR WRITEN(8)", "1458");
        Check.does("TEST 1 THEN TEST 0 THEN WRITEN(1) OR WRITEN(2) OR WRITEN(3)", "2");
        Check.prints("LET F(n) = VALOF $( WRITEN(n); RESULTIS n $); LET START() BE $( LET x = 1 -> F(1), F(2); x := 0 -> F(3), F(4); WRITEN(x) $)", "144");
    }

    private static void loops() {
        Check.does("LET i = 0; WHILE i < 3 DO $( WRITEN(i); i := i + 1 $); UNTIL i = 0 DO $( i := i - 1; WRITEN(i) $)", "012210");
        Check.does("WHILE 0 DO WRITEN(1); UNTIL 1 DO WRITEN(2); FOR i = 2 TO 1 DO WRITEN(3); FOR i = 1 TO 2 BY -1 DO WRITEN(4)", "");
        Check.does("LET i = 0; $( i := i + 1; IF i = 2 LOOP; IF i = 5 BREAK; WRITEN(i) $) REPEAT; WRITEN(i)", "1345");
        Check.does("LET i = 0; WHILE i < 6 DO $( i := i + 1; IF i = 2 LOOP; IF i = 5 BREAK; WRITEN(i) $); WRITEN(i)", "1345");
        Check.does("LET i = 0; $( i := i + 1; IF i = 2 LOOP; WRITEN(i) $) REPEATUNTIL i >= 3; WRITEN(i)", "133");
        Check.does("LET i = 9; WRITEN(7) REPEATWHILE VALOF $( i := i - 1; RESULTIS i > 7 $)", "77");
        Check.does("FOR i = 1 TO 9 DO $( IF i = 2 LOOP; IF i = 4 BREAK; WRITEN(i) $)", "13");
        Check.does("FOR i = 1 TO 10 BY 4 DO WRITEN(i); FOR i = 3 TO 1 BY -1 DO WRITEN(i); FOR i = 1 TO 1 DO WRITEN(i); FOR i = 10 TO 1 BY -4 DO WRITEN(i)", "15932111062");
        Check.does("LET n = 0; FOR i = 5 TO 5 BY 0 DO $( n := n + 1; IF n = 3 BREAK $); WRITEN(n); FOR i = 6 TO 5 BY 0 DO WRITEN(9)", "3");
        Check.does("LET n = 0; FOR i = 2147483646 TO 2147483647 DO $( n := n + 1; IF n = 4 BREAK; WRITEN(i - 2147483640) $)", "67" + "8" .replace("8", "8"));
        // Many words that leave or go on, each of them taken.
        String body = "$( i := i + 1; IF i = 1 LOOP; IF i = 3 LOOP; IF i = 5 LOOP; WRITEN(i); IF i = 7 BREAK; IF i = 8 BREAK; IF i = 9 BREAK $)";
        String[] heads = {"WHILE i < 20 DO #", "UNTIL i >= 20 DO #", "# REPEATWHILE i < 20", "# REPEATUNTIL i >= 20", "# REPEAT", "FOR j = 1 TO 20 DO #"};
        for (String head : heads) {
            Check.does("LET i = 0; " + head.replace("#", body) + "; WRITEN(0)", "24670");
            Check.does("LET i = 7; " + head.replace("#", body) + "; WRITEN(0)", "80");
            Check.does("LET i = 8; " + head.replace("#", body) + "; WRITEN(0)", "90");
        }
        Check.does("LET i = 0; " + body + " REPEATWHILE i < 5 REPEATWHILE i < 12; WRITEN(0)", "2467891011120");
        // The end is worked once; N may be stored to.
        Check.does("LET n = 3; FOR i = 1 TO n DO $( n := 1; WRITEN(i) $); FOR i = 1 TO 9 DO $( WRITEN(i); i := i + 2 $)", "123147");
        Check.prints("LET F(n) = VALOF $( WRITEN(n); RESULTIS n $); LET START() BE FOR i = F(1) TO F(2) DO WRITEN(i)", "1212");
        // Its two words: N, and behind it the end.
        Check.does("FOR i = 1 TO 9 DO $( IF i = 2 DO (@i)!1 := 3; WRITEN((@i)!1); WRCH(' ') $)", "9 3 3 ");
    }

    private static void switches() {
        String s = "FOR i = 1 TO 6 DO SWITCHON i INTO $( CASE 1: WRITEN(1); ENDCASE; CASE 2: CASE 3: WRITEN(2); CASE 4: WRITEN(4); ENDCASE; DEFAULT: WRITEN(9); CASE 6: WRITEN(6) $)";
        Check.does(s, "12424" + "4" + "96" + "6");
        Check.does("SWITCHON 5 INTO $( CASE 1: WRITEN(1) $); WRITEN(2)", "2");
        // Only what the K's tell are cases, however many there are.
        Check.does("LET n = 0; FOR i = -20 TO 400 DO SWITCHON i INTO $( CASE 5000: CASE 6000: n := 1; CASE 7000: n := 2; ENDCASE; DEFAULT: n := n + 1 $); WRITEN(n)", "421");
        Check.does("LET n = 0; FOR i = -20 TO 400 DO SWITCHON i INTO $( CASE 5000: CASE 6000: n := 1; ENDCASE; CASE 7000: n := n + 1 $); WRITEN(n)", "0");
        StringBuilder cases = new StringBuilder();
        for (int i = 0; i < 150; i++) {
            cases.append("CASE ").append(i).append(":n:=n+").append(i).append(";ENDCASE;");
        }
        Check.does("LET n = 0; FOR i = -5 TO 155 DO SWITCHON i INTO $( " + cases + "DEFAULT:n:=n+100000 $); WRITEN(n)", "" + (149 * 150 / 2 + 11 * 100000));
        for (int i = 0; i < 150; i += 7) {
            Check.fault("LET START() BE $( LET n=0;SWITCHON n INTO $( " + cases + "CASE ^" + i + ": $) $)", 6);
        }
        Check.does("FOR i = 1 TO 4 DO $( SWITCHON i INTO $( CASE 1: WRITEN(1); ENDCASE; CASE 2: ENDCASE; CASE 3: WRITEN(3); ENDCASE; DEFAULT: WRITEN(9) $); WRITEN(0) $)", "1003090");
        // What an E is on its way with stays, whether a case is met or not.
        for (String inner : new String[] {"CASE 1:", "CASE 3:", "DEFAULT:", "", "CASE 3: ENDCASE", "CASE 1: ENDCASE; DEFAULT: ENDCASE"}) {
            Check.does("WRITEN(50 - VALOF $( SWITCHON 3 INTO $( " + inner + " $); RESULTIS 4 $))", "46");
        }
        Check.does("SWITCHON 1 INTO $( WRITEN(0); CASE 1: $( WRITEN(1); SWITCHON 2 INTO $( CASE 2: WRITEN(2); ENDCASE; CASE 3: WRITEN(3) $) $); WRITEN(4); ENDCASE; DEFAULT: WRITEN(5) $)", "124");
        Check.does("SWITCHON 2 INTO $( $); SWITCHON 'b' INTO $( CASE 'a': WRITEN(1); CASE 'b': $); SWITCHON -2147483648 INTO $( CASE #X80000000: WRITEN(3) $)", "3");
        Check.does("FOR i = 1 TO 3 DO $( SWITCHON i INTO $( CASE 2: LOOP; CASE 3: BREAK $); WRITEN(i) $)", "1");
        Check.does("SWITCHON 1 INTO $( CASE 1: WHILE TRUE DO ENDCASE; WRITEN(1) $); WRITEN(2)", "2");
        Check.does("WRITEN(100 + VALOF SWITCHON 3 INTO $( CASE 3: RESULTIS 5; DEFAULT: RESULTIS 6 $))", "105");
    }

    private static void valofs() {
        Check.does("WRITEN(VALOF $( $)); WRITEN(VALOF RESULTIS 4); WRITEN(1 + VALOF $( FOR i = 1 TO 9 IF i * i > 30 RESULTIS i $) * 2)", "0413");
        Check.does("WRITEN(VALOF $( LET a = VALOF $( RESULTIS 3 $); RESULTIS a + VALOF RESULTIS 5 $))", "8");
        Check.does("LET x = 1 + VALOF $( LET y = 5; RESULTIS y $) + VALOF $( LET z = 6; RESULTIS z $); WRITEN(x)", "12");
        Check.prints("LET F() BE $( LET x = 1 + VALOF $( WRITEN(1); RETURN $); WRITEN(2) $); LET START() BE $( WRITEN(F()); WRITEN(3) $)", "103");
        Check.does("LET x = 3 + VALOF $( FINISH $); WRITEN(1)", "");
        Check.does("WRITEN(5 - VALOF $( $)); WRITEN(5 - VALOF IF FALSE RESULTIS 9); WRITEN(5 - VALOF WHILE FALSE DO RESULTIS 9)", "555");
        Check.prints("LET F(n) = n; LET START() BE $( WRITEN(50 - VALOF $( F(9); F(7); RESULTIS 4 $)) $)", "46");
        Check.does("WRITEN(VALOF $( LET i = 0; $( i := i + 1; IF i = 2 RESULTIS 5; IF i = 7 RESULTIS 6; IF i > 8 RESULTIS 7; i := i + 3 $) REPEAT $))", "7");
        Check.does("FOR n = 1 TO 3 DO WRITEN(40 - VALOF $( IF n = 1 RESULTIS 5; IF n = 2 RESULTIS 6 $))", "353440");
        // What was around a loop within is left by BREAK and LOOP again.
        Check.does("FOR i = 1 TO 5 DO $( LET j = 0; WHILE TRUE DO $( j := j + 1; IF j = 2 BREAK $); WRITEN(i); IF i = 2 LOOP; IF i = 4 BREAK; WRITEN(j) $); WRITEN(9)", "12232" + "49");
        Check.does("LET i = 0; $( LET j = 0; $( j := j + 1; IF j < 3 LOOP; BREAK $) REPEAT; i := i + 1; IF i = 2 LOOP; WRITEN(i); IF i = 4 BREAK; WRITEN(j) $) REPEAT; WRITEN(9)", "133349");
        Check.does("LET i = 0; WHILE i < 4 DO $( FOR k = 1 TO 2 DO LOOP; i := i + 1; IF i = 2 LOOP; WRITEN(i + VALOF $( FOR k = 1 TO 2 DO BREAK; RESULTIS 0 $)) $)", "134");
    }

    private static void calls() {
        Check.prints("LET F(a, b, c) = a * 100 + b * 10 + c; LET START() BE $( WRITEN(F(1, 2, 3)); WRITEN(F(1, 2)); WRITEN(F()); WRITEN(F(1, 2, 3, 4, 5)) $)", "1231200123");
        Check.prints("LET F(n) = VALOF $( WRITEN(n); RESULTIS F $); LET START() BE F(1)(2)(3)", "123");
        Check.prints("LET F(n) = VALOF $( WRITEN(n); RESULTIS n $); LET G() = VALOF $( WRITEN(9); RESULTIS F $); LET START() BE G()(F(1), F(2))", "1291");
        Check.prints("LET F(n) = n + 1; LET START() BE $( LET v = VEC 1; v!1 := F; WRITEN((v!1)(5)); WRITEN((1 -> F, 0)(7)); WRITEN(1000000(8)) $)", "689");
        Check.prints("LET F() = 1; LET G() = 2; LET START() BE $( F := G; WRITEN(F()) $)", "2");
        Check.prints("LET F() BE RETURN; LET G() BE $( $); LET H(a) BE a := 5; LET START() BE $( WRITEN(100 - F()); WRITEN(100 - G()); WRITEN(100 - H(3)); WRITEN(7 - (6 - H(3))) $)", "1001001001");
        Check.prints("LET A(n) = n = 0 -> 0, 1 + B(n - 1) AND B(n) = n = 0 -> 0, 1 + A(n - 1); LET START() BE WRITEN(A(90))", "90");
        Check.prints("LET F(a) BE $( a := a + 1; WRITEN(a) $); LET START() BE $( LET x = 1; F(x); WRITEN(x) $)", "21");
        Check.prints("LET F(n) BE $( IF n = 0 RETURN; F(n - 1); WRITEN(n) $); LET START() BE F(5)", "12345");
        Check.does("LET F(x) = VALOF $( LET G(y) = y * 2; RESULTIS G(x) + 1 $); WRITEN(F(4))", "9");
        // 100 calls may be under way, START's among them.
        Check.prints("LET F(n) = n = 0 -> 0, 1 + F(n - 1); LET START() BE WRITEN(F(98))", "98");
        Check.fails("LET F(n) = n = 0 -> 0, 1 + F(n - 1); LET START() BE WRITEN(F(99))", 5, "");
        Check.prints("LET F(n) = n = 0 -> 0, 1 + F(n - 1); LET START() BE FOR i = 1 TO 9 DO F(98)", "");
    }

    private static void ends() {
        WordTongue x = new WordTongue();
        Check.compile(x, "LET START(a, b) = a + b + 5");
        Check.due("run", x.run(10), 0);
        Check.due("START's value", x.value(), 5);
        Check.compile(x, "LET START() BE $( WRITES(\"a\"); RETURN; WRITES(\"b\") $)");
        Check.due("run", x.run(10), 0);
        Check.due("RETURN's value", x.value(), 0);
        Check.compile(x, "LET F() BE FINISH; LET START() = VALOF $( F(); RESULTIS 5 $)");
        Check.due("run to FINISH", x.run(10), 0);
        Check.due("FINISH's value", x.value(), 0);
        Check.compile(x, "LET START() = 3 + STOP(-7)");
        Check.due("run to STOP", x.run(10), 6);
        Check.due("STOP's value", x.value(), -7);
        Check.compile(x, "LET START() = 3 + STOP()");
        Check.due("run to STOP", x.run(10), 6);
        Check.due("STOP's value", x.value(), 0);
        Check.compile(x, "LET START() = 1 / 0");
        Check.due("run to error 3", x.run(10), 3);
        Check.due("an error's value", x.value(), 0);
        Check.compile(x, "LET START() = START = 1000000 -> 8, 9");
        Check.due("run", x.run(10), 0);
        Check.due("value", x.value(), 8);
    }

    private static void errors() {
        Check.fails(Check.start("WRITEN(1); WRITEN(5 / 0); WRITEN(2)"), 3, "1");
        Check.fails(Check.start("LET z = 0; WRITEN(1); z := 5 REM z; WRITEN(2)"), 3, "1");
        Check.does("WRITEN(0 -> 1 / 0, 4); WRITEN(2 < 1 < 1 / 0)", "40");
        Check.fails(Check.start("WRITEN(1); WRITEN(!4096)"), 2, "1");
        Check.fails(Check.start("WRITEN(!4095); WRITEN(!(-1))"), 2, "0");
        Check.fails(Check.start("!4096 := 1"), 2, "");
        Check.fails(Check.start("LET x = 4000!96; WRITEN(1)"), 2, "");
        Check.does("WRITEN(4000!95); WRITEN(2147483647!(-2147483647)); WRITEN(-1!1)", "000");
        Check.fails(Check.start("WRITEN(0%16383); WRITEN(0%16384)"), 2, "0");
        Check.fails(Check.start("0%(-1) := 5"), 2, "");
        Check.fails(Check.start("WRITEN(0%0); WRITEN(0%(-1))"), 2, "0");
        Check.fails(Check.start("2147483647%2147483647 := 1"), 2, "");
        Check.does("WRITEN(@(5!6)); WRITEN(@((-5)!1)); WRITEN(@!(-9))", "11-4-9");
        Check.fails(Check.start("WRITEN(1); 5()"), 4, "1");
        Check.fails(Check.start("1000001()"), 4, "");
        Check.fails(Check.start("999999()"), 4, "");
        Check.fails(Check.start("2000018()"), 4, "");
        Check.fails(Check.start("1999999()"), 4, "");
        Check.fails("GLOBAL $( G: 0 $); LET START() BE $( WRITEN(1); G(WRITEN(2)) $)", 4, "12");
        // A frame must end within the store, with all words that it may come to use.
        Check.prints("LET START() BE $( LET v = VEC 3990; WRITEN(v); v!3990 := 1 $)", "104");
        Check.prints("LET START() BE $( LET v = VEC 3991; WRITEN(v) $)", "104");
        Check.fails("LET START() BE $( WRITEN(1); $( LET v = VEC 3992; WRITEN(v) $) $)", 5, "");
        Check.fails("LET F() BE $( WRITEN(2); IF FALSE $( LET v = VEC 3990; WRITEN(v) $) $); LET START() BE $( WRITEN(1); F() $)", 5, "1");
        Check.prints("LET F() BE $( LET v = VEC 3985; WRITEN(v) $); LET START() BE $( LET a, b = 1, 2; F() $)", "109");
    }
}
