/** What may stand where: fault 2, the limits of nests and lists, and how signs bind (promises 4, 5 and 8). */
public final class GrammarTest {
    private static final String HEAD = "LET F(a) = a + 1; LET START() BE $( LET a, b, c, d = 1, 2, 3, 4; ";

    public static void main(String[] args) {
        texts();
        declarations();
        commands();
        repeats();
        expressions();
        nests();
        links();
        lists();
        Check.end();
    }

    private static void no(String commands) {
        boolean isLast = commands.endsWith("^");
        Check.fault(HEAD + (isLast ? commands.substring(0, commands.length() - 1) + " ^$)" : commands + " $)"), 2);
    }

    private static void yes(String commands) {
        Check.good(HEAD + commands + " $)");
    }

    private static void texts() {
        Check.fault("", 2, 0);
        Check.fault("   // nothing\n", 2, 14);
        Check.fault("^;LET START() BE FINISH", 2);
        Check.fault("^FINISH", 2);
        Check.fault("^START()", 2);
        Check.good("LET START() BE FINISH");
        Check.good("LET START() BE FINISH;");
        Check.good("GLOBAL $( A: 1; B: 2 $); MANIFEST $( C = 1 $); STATIC $( D = C $); LET START() BE FINISH AND G() = 1; LET H(x, y) = x;");
        Check.fault("LET START() BE FINISH;^;", 2);
        Check.fault("LET START() BE FINISH ^)", 2);
        Check.fault("LET START() BE FINISH ^LET F() BE RETURN", 2);
        Check.fault("LET START() BE FINISH ^$)", 2);
        Check.fault("LET START() ^", 2);
        Check.fault("LET ^", 2);
        Check.fault("LET START ^= 1", 2);
        Check.fault("LET ^5", 2);
        Check.fault("LET START^, X = 1, 2", 2);
        Check.fault("LET START(^1) BE FINISH", 2);
        Check.fault("LET START(a^) BE FINISH".replace("a^", "a, ^"), 2);
        Check.fault("LET START(a ^b) BE FINISH", 2);
        Check.fault("LET START() ^FINISH", 2);
        Check.fault("LET START() BE FINISH AND ^LET G() = 1", 2);
        Check.fault("LET START() BE FINISH; ^AND G() = 1", 2);
        Check.fault("LET START() BE ^AND G() = 1", 2);
        Check.fault("LET START() BE ^", 2);
        Check.good("LET START() BE ;");
        Check.fault("GLOBAL ^A: 1", 2);
        Check.fault("GLOBAL $( ^$)", 2);
        Check.fault("GLOBAL $( A^= 1 $)", 2);
        Check.fault("GLOBAL $( A: 1; ^$)", 2);
        Check.fault("GLOBAL $( A: 1 ^, B: 2 $)", 2);
        Check.fault("GLOBAL $( A: 1", 2, 14);
        Check.fault("MANIFEST $( A^: 1 $)", 2);
        Check.fault("STATIC $( A = ^$)", 2);
        Check.fault("STATIC $( A = 1; ^$)", 2);
        Check.fault("STATIC $( A = ^VEC 3 $)", 2);
        Check.good("STATIC $( A = 1\n B = 2\n $)\nLET START() BE FINISH");
    }

    private static void declarations() {
        yes("LET x = 1");
        yes("LET x = 1;");
        no("FINISH; ^LET x = 1");
        no("; ^LET x = 1");
        no("L: ^LET x = 1");
        no("LET x ^:= 1");
        no("LET x, y = 1, 2^, 3");
        no("LET x, y = 1^; x := 2");
        no("LET x, ^= 1");
        no("LET x, y^() = 1");
        no("LET x = 1 ^AND y = 2");
        no("LET G() = 1 AND y ^= 2");
        yes("LET x, v, y = VEC 3, VEC 4, 5");
        no("LET x = 1 + ^VEC 3");
        no("LET x = (^VEC 3)");
        no("a := ^VEC 3");
        // All K's that come are the table's.
        no("LET x, y = TABLE 1, 2^; FINISH");
        yes("LET x, y = 1, TABLE 1, 2");
        yes("MANIFEST $( M = 1 $); GLOBAL $( G: M $); STATIC $( S = M $); LET x = S; LET G2() BE $( LET y = 1; FINISH $) AND G3() = 2; FINISH");
        yes("$( LET x = 1 $); $( LET x = 1; $); $( $); $( ; $); $( ;; $)");
        no("IF a DO ^LET x = 1");
        no("SWITCHON a INTO $( ^LET x = 1 $)");
    }

    private static void commands() {
        no("1^");
        no("^)");
        no("a^");
        no("a ^+ 1".replace("a ^+ 1", "a + 1^"));
        no("a, b = 1, 2^");
        no("a, b := 1^; FINISH");
        no("a, b := 1, 2^, 3");
        no("a := ^;");
        no("a := b := c".replace("b :=", "b ^:="));
        yes("a, b, c := c, b, a");
        yes("a, b!c, !d, a%b := 1, 2, 3, 4");
        yes("F(1)");
        yes("F(1)(2)");
        yes("(F)(1)");
        yes("VALOF $( RESULTIS F $)(1)");
        no("(F(1))^");
        no("F(1)!1^");
        no("F(1) + 1^");
        no("- F(1)^");
        no("a -> F(1), F(2)^");
        no("!F(1)^");
        no("F^");
        yes("!F(1) := 1");
        yes("IF a DO FINISH; IF a THEN FINISH; UNLESS a DO ;; WHILE a DO BREAK; UNTIL a THEN LOOP");
        no("IF a ^F(1)");
        no("IF a ^b := 1");
        no("IF a ^;");
        no("IF a ^VALOF F(1)");
        no("IF a DO DO".replace("DO DO", "DO ^DO"));
        no("IF ^DO FINISH");
        for (String word : new String[] {"$( $)", "IF b DO ;", "UNLESS b DO ;", "TEST b DO ; ", "WHILE b DO ;", "UNTIL b DO ;", "FOR i = 1 TO 2 DO ;",
            "SWITCHON b INTO $( $)", "BREAK", "LOOP", "RETURN", "FINISH", "GOTO L"}) {
            String body = word.startsWith("TEST") ? "TEST b DO FINISH OR FINISH" : word;
            yes("L: WHILE a $( IF a " + body + " $)");
            yes("L: WHILE a $( UNLESS a " + body + " $)");
            yes("L: WHILE a " + body);
            yes("L: UNTIL a " + body);
            yes("L: WHILE a FOR j = 1 TO 2 " + body);
            if (!word.endsWith(";")) {
                yes("L: WHILE a TEST a " + body + " OR " + body);
            }
        }
        yes("SWITCHON a INTO $( CASE 1: WHILE a DO IF b ENDCASE $)");
        yes("a := VALOF IF b RESULTIS 1");
        no("TEST a DO FINISH^");
        no("TEST a DO FINISH^; OR FINISH");
        no("TEST a DO ^OR FINISH");
        no("TEST a DO FINISH OR ^ELSE FINISH");
        yes("TEST a THEN FINISH ELSE FINISH");
        no("IF a DO FINISH ^OR FINISH");
        no("FOR ^1 = 1 TO 2 DO ;");
        no("FOR i ^:= 1 TO 2 DO ;");
        no("FOR i = 1 ^DO ;");
        no("FOR i = 1 TO 2 BY ^DO ;");
        no("FOR i = 1 ^BY 2 TO 3 DO ;");
        no("FOR i, ^j = 1 TO 3 DO ;".replace("i, ^j", "i^, j"));
        yes("FOR i = 1 TO 2 BY 3 FINISH");
        no("SWITCHON a ^$( CASE 1: $)");
        no("SWITCHON a INTO ^CASE 1: FINISH");
        yes("SWITCHON a INTO $( CASE 1: CASE 2: DEFAULT: CASE 3: L1: L2: FINISH; M: b := 1; DEFAULT1: ; CASE 4: $)");
        yes("SWITCHON a INTO $( FINISH; CASE 1: FINISH $)");
        no("SWITCHON a INTO $( L1: ^CASE 1: FINISH $)");
        no("SWITCHON a INTO $( CASE ^: FINISH $)");
        no("SWITCHON a INTO $( CASE 1^; FINISH $)");
        no("SWITCHON a INTO $( DEFAULT^ 1: FINISH $)".replace("^ 1", " ^1"));
        no("SWITCHON a INTO $( CASE 1: IF a DO ^CASE 2: $)");
        no("SWITCHON a INTO $( CASE 1: $( ^CASE 2: $) $)");
        no("^CASE 1: FINISH");
        no("^DEFAULT: FINISH");
        for (String sign : new String[] {"EQV", "NEQV", "REM", "NOT", "+", "=", "->", "!", ":", "THEN", "TO", "BY", "INTO", "BE", "AND", "VEC"}) {
            no("BREAK ^" + sign + " 1");
            no("$( $) ^" + sign + " 1");
            no("F(1) REPEAT ^" + sign + " 1");
        }
        no("GOTO ^1");
        no("GOTO ^(L)");
        no("RETURN ^1");
        no("RESULTIS^");
        no("BREAK ^L");
        no("FINISH^()".replace("^()", " ^()"));
        no("IF a DO L^: FINISH");
        no("^INTO");
        no("$( FINISH ^)");
        Check.fault("LET START() BE $( FINISH", 2, 24);
    }

    private static void repeats() {
        no("; ^REPEAT");
        no("^REPEAT");
        no("F(1) REPEATWHILE^");
        no("F(1) REPEAT ^a");
        yes("F(1) REPEAT REPEATWHILE a REPEATUNTIL b REPEAT");
        yes("IF a DO F(1) REPEAT; TEST a THEN F(1) REPEAT OR F(1) REPEATWHILE b");
        yes("$( BREAK $) REPEAT; SWITCHON a INTO $( CASE 1: $) REPEATWHILE a");
        // IF E DO C REPEAT repeats C: the IF is not asked again.
        Check.does("LET n = 0; IF n = 0 DO $( n := n + 1; IF n = 3 BREAK $) REPEAT; WRITEN(n)", "3");
        Check.does("LET n, m = 0, 0; $( n := n + 1 $) REPEATUNTIL n REM 3 = 0 REPEATUNTIL n > 7; WRITEN(n)", "9");
        Check.does("LET n = 0; $( n := n + 1; IF n REM 4 = 0 BREAK $) REPEAT REPEATWHILE n < 10; WRITEN(n)", "12");
        Check.does("LET n = 0; $( n := n + 1; LOOP; n := 100 $) REPEATWHILE n < 5 REPEATWHILE n < 8; WRITEN(n)", "8");
    }

    private static void expressions() {
        Check.does("WRITEN(1 + 2 * 3 - 4 / 2)", "5");
        Check.does("WRITEN(10 - 3 - 2); WRITEN(100 / 7 / 2); WRITEN(100 REM 7 * 3); WRITEN(2 * 100 REM 7)", "5764");
        Check.does("WRITEN(-3 * 2); WRITEN(- - 3); WRITEN(-+3); WRITEN(~-1); WRITEN(2 - -3)", "-63-305");
        Check.does("WRITEN(1 + 1 << 2 + 1); WRITEN(1 << 2 << 1); WRITEN(1 << 3 & 12); WRITEN(1 | 6 & 4)", "16885");
        Check.does("WRITEN(1 | 2 EQV 3); WRITEN(5 NEQV 1 | 2); WRITEN(1 EQV 2 NEQV 3)", "-16-1");
        Check.does("WRITEN(1 < 2 & 3 < 4); WRITEN(1 + 1 = 2); WRITEN(1 << 1 = 2); WRITEN(2 = 1 << 1)", "-1-110");
        Check.does("WRITEN(1 -> 2, 3 -> 4, 5); WRITEN(0 -> 2, 3 -> 4, 5); WRITEN(0 -> 2, 0 -> 4, 5); WRITEN(1 -> 0 -> 6, 7, 8); WRITEN(0 | 1 -> 9, 8)", "24579");
        Check.does("WRITEN(~ 1 = -2); WRITEN(~ (1 = -2)); WRITEN(- 1 + 3)", "-1-12");
        Check.does("LET v = TABLE 10, 20, 30; WRITEN(-v!1); WRITEN(v!0 + v!1); WRITEN(v!1*2); WRITEN(!v + 1); WRITEN(!(v + 1)); WRITEN(!v)", "-203040112010");
        // The ! ahead goes with all links behind it; links go from the left.
        Check.does("LET v = VEC 2; LET w = VEC 2; v!1 := w; w!2 := 77; WRITEN(v!1!2); WRITEN(!v!1 = !(v!1)); w!0 := 5; WRITEN(!v!1)", "77-15");
        Check.does("LET v = VEC 2; LET w = VEC 2; w!2 := 78; w!0 := 2; WRITEN(w ! !w); WRITEN((@w) ! 0 = w); WRITEN(0 ! @w = w)", "78-1-1");
        Check.does("LET v = VEC 2; v!1 := v; v!2 := 6; WRITEN(@v!2 - v); WRITEN(!@v!2); WRITEN(v!1!1!2); WRITEN(@!v = v)", "266-1");
        Check.does("LET x = 5; LET p = @x; WRITEN(!p); !p := 6; WRITEN(x); WRITEN((@x)!0)", "566");
        Check.does("LET s = \"abc\"; WRITEN(s%0); WRCH(s%1 + 0); WRCH(s%(1 + 1)); WRITEN(1 + s%0 * 2)", "3ab7");
        no("a := 1 + ^* 2");
        no("a := !^- 1");
        no("a := @^~ 1");
        no("a := b ! ^- 1");
        no("a := b % ^+ 1");
        no("a := b % ^~ 1");
        yes("a := b ! !c ! @d % !a");
        no("a := b -> c^");
        no("a := b -> c^; d");
        no("a := ^-> c, d");
        no("a := (b^");
        no("a := (b^, c)");
        no("a := ()".replace("()", "(^)"));
        no("a := F(1,^)");
        no("a := F(^,1)");
        no("a := F(1 ^2)");
        no("a := 1 ^NOT 2");
        no("a := 1 ^~ 2");
        no("a := TABLE^");
        no("a := TABLE 1, ^");
        no("a := VALOF^".replace("VALOF^", "VALOF ^THEN"));
        no("a := ^LET");
        no("a := b ^c");
        no("a := b ^TRUE");
        yes("a := VALOF ; b := VALOF $( $)");
        yes("a := TABLE 1, 2, -3, 1 -> 2, 3; b := TABLE 1!2".replace("1!2", "1"));
    }

    /** A nest of so many parts stands: one more can't, at the mark of its token. */
    private static void nest(String before, String part, String token, String middle, String back, String after, int most) {
        Check.good(before + Check.times(part, most) + middle + Check.times(back, most) + after);
        String text = before + Check.times(part, most + 1) + middle + Check.times(back, most + 1) + after;
        int place = before.length() + part.length() * most + part.indexOf(token);
        Check.fault(text, 2, place);
    }

    private static void nests() {
        String e = "LET F(a) = a; LET START() BE FINISH; LET G(a) = ";
        String c = "LET F(a) = a; LET START() BE FINISH; LET G(a) BE ";
        nest(e, "(", "(", "1", ")", "", 60);
        nest(e, "-", "-", "1", "", "", 60);
        nest(e, "+ ", "+", "1", "", "", 60);
        nest(e, "~", "~", "1", "", "", 60);
        nest(e, "NOT ", "NOT", "1", "", "", 60);
        nest(e, "!", "!", "1", "", "", 60);
        nest(e, "F(", "(", "1", ")", "", 60);
        nest(e, "1->", "->", "1", ",1", "", 60);
        nest(e, "1->1,", "->", "1", "", "", 60);
        nest(e, "VALOF RESULTIS ", "VALOF", "1", "", "", 60);
        nest(c, "$( ", "$(", "", "$)", "", 60);
        nest(e, "(VALOF $( IF a RESULTIS ", "(", "1", "$))", "", 15);
        Check.fault(c + Check.times("IF a ", 60) + "IF a ^FINISH", 2);
        Check.fault(c + Check.times("WHILE a DO ", 60) + "UNTIL a DO ^F(1)", 2);
        Check.fault(c + Check.times("FOR i = 1 TO 2 DO ", 60) + "UNLESS a DO ^F(1)", 2);
        Check.good(c + Check.times("TEST a THEN FINISH OR ", 60) + "FINISH");
        Check.fault(c + Check.times("TEST a THEN FINISH OR ", 60) + "TEST a THEN ^FINISH OR FINISH", 2);
        Check.fault(c + "$( " + Check.times("IF a ", 59) + "TEST a THEN ^FINISH OR FINISH $)", 2);
        // Text, routines, parameter lists and what follows one another are no nests.
        Check.good(e + Check.times("(1)+", 100) + "1");
        Check.good(e + "F(1)" + Check.times("+F(1)", 100));
        Check.good(c + "$( " + Check.times("IF a FINISH; ", 100) + " $)");
        Check.good(c + "$( " + Check.times("$( $); ", 100) + " $)");
        Check.good(c + "$( LET f(a) BE $( LET g(a) BE FINISH $) $)");
        Check.good(e + "TABLE " + Check.times("(1), ", 100) + "1");
        // A table holds up to the end of its last K.
        Check.good(e + Check.times("(", 58) + "TABLE 1, (2)" + Check.times(")", 58));
        Check.fault(e + Check.times("(", 59) + "TABLE 1, ^(2)" + Check.times(")", 59), 2);
        Check.fault(e + Check.times("(", 60) + "^TABLE 1" + Check.times(")", 60), 2);
        Check.good(e + Check.times("(", 59) + "TABLE 1" + Check.times(")", 58) + "+(1))");
        // The $( of declarations and of switches count, too.
        Check.good(c + Check.times("$( ", 59) + "STATIC $( A = 1 $)" + Check.times("$)", 59));
        Check.fault(c + Check.times("$( ", 60) + "STATIC ^$( A = 1 $)" + Check.times("$)", 60), 2);
        Check.fault(c + Check.times("$( ", 59) + "STATIC $( A = ^(1) $)" + Check.times("$)", 59), 2);
        Check.good(c + Check.times("SWITCHON a INTO $( CASE 1: ", 60) + Check.times("$)", 60));
        Check.fault(c + Check.times("SWITCHON a INTO $( CASE 1: ", 60) + "SWITCHON a INTO ^$( $)", 2);
        // A sign holds up to its part's end alone; a -> holds both ways.
        Check.good(e + Check.times("(", 59) + "-1+-1" + Check.times(")", 59));
        Check.good(e + Check.times("-", 60) + "1 + (1)");
        Check.fault(e + Check.times("-", 60) + "^(1)", 2);
        Check.fault(e + Check.times("(", 59) + "1 -> 1, ^-1" + Check.times(")", 59), 2);
        Check.good(e + Check.times("(", 59) + "-1 -> 1, 1" + Check.times(")", 59));
        Check.good("LET F(a) = a; LET START() BE FINISH; " + "LET G(a) BE " + Check.times("$( LET f() BE ", 60) + Check.times("$)", 60));
        Check.fault("LET F(a) = a; LET START() BE FINISH; " + "LET G(a) BE " + Check.times("$( LET f() BE ", 60) + "^$( $)", 2);
    }

    private static void links() {
        String e = "LET F(a) = a; LET START() BE FINISH; LET G(a) = ";
        String c = "LET F(a) = a; LET START() BE FINISH; LET G(a) BE ";
        nest(e + "a", "!1", "!", "", "", "", 60);
        nest(e + "a", "%1", "%", "", "", "", 60);
        nest(e + "a", "(1)", "(", "", "", "", 60);
        nest(e + "a", "!!1", "!", "", "", "", 30);
        Check.fault(e + "a" + Check.times("!1", 59) + "!^!1", 2);
        Check.good(e + "a" + Check.times("!1", 30) + Check.times("(1)", 30));
        Check.fault(e + "a" + Check.times("!1", 30) + Check.times("(1)", 30) + "^%1", 2);
        // Each counts beside what is around, and up to the end of its E9; what stands in it is within.
        Check.good(e + "a" + Check.times("!1", 60) + "+a" + Check.times("!1", 60) + "-(a)");
        Check.good(e + "((a" + Check.times("!1", 58) + ")!1)");
        Check.good(e + "((a" + Check.times("!1", 58) + ")" + Check.times("!1", 59) + ")" + Check.times("!1", 60));
        Check.fault(e + "((a" + Check.times("!1", 58) + "^!1)!1)", 2);
        Check.good(e + "a" + Check.times("!1", 59) + "!(1)".replace("(1)", "1"));
        Check.good(e + "a" + Check.times("!1", 58) + "!(1)");
        Check.fault(e + "a" + Check.times("!1", 59) + "!^(1)", 2);
        Check.good(e + "a" + Check.times("(1)", 59) + "(1)");
        Check.fault(e + "a" + Check.times("(1)", 59) + "(^(1))", 2);
        Check.good(e + "a!!1" + Check.times("!1", 58));
        Check.fault(e + "a!!1" + Check.times("!1", 58) + "^!1", 2);
        Check.good(e + "-!a" + Check.times("!1", 58));
        Check.fault(e + "-!a" + Check.times("!1", 58) + "^!1", 2);
        nest(c + "F(1) ", "REPEAT ", "REPEAT", "", "", "", 60);
        nest(c + "F(1) ", "REPEATWHILE a ", "REPEATWHILE", "", "", "", 60);
        Check.good(c + "F(1) " + Check.times("REPEAT ", 59) + "REPEATWHILE (a)".replace("(a)", "a"));
        Check.fault(c + "F(1) " + Check.times("REPEAT ", 59) + "REPEATWHILE ^(a)", 2);
        Check.fault(c + "$( F(1) " + Check.times("REPEAT ", 59) + "^REPEAT $)", 2);
        Check.good(c + "$( F(1) " + Check.times("REPEAT ", 59) + " $) " + Check.times("REPEAT ", 60));
        Check.good(c + Check.times("$( ", 60) + "FINISH" + Check.times(" $) REPEAT", 60));
    }

    private static void lists() {
        String names = "a";
        String values = "1";
        for (int i = 2; i <= 20; i++) {
            names += ", a" + i;
            values += ", " + i;
        }
        Check.prints("LET F(" + names + ") = a + a20; LET START() BE WRITEN(F(" + values + "))", "21");
        Check.fault("LET F(" + names + "^, b) = 1; LET START() BE FINISH", 2);
        Check.fault("LET START() BE F(" + values + "^, 21)", 2);
        Check.fault("LET START() BE F(" + values + "^,)", 2);
        // Other lists have no such bound.
        Check.does("LET " + names + ", b = " + values + ", 21; LET t = TABLE " + values + ", 21; WRITEN(b + t!20)", "42");
    }
}
