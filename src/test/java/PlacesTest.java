/** What can't be stored to or left, and what is too much: faults 6 and 7 (promises 4 and 5). */
public final class PlacesTest {
    private static final String HEAD = "GLOBAL $( G: 1 $); STATIC $( S = 1 $); MANIFEST $( M = 1 $); LET F(a) = a; LET START() BE $( LET x, v = 1, VEC 9; ";

    public static void main(String[] args) {
        stores();
        addresses();
        leaving();
        switches();
        tooMuch();
        Check.end();
    }

    private static void no(String commands) {
        Check.fault(HEAD + commands + " $)", 6);
    }

    private static void yes(String commands) {
        Check.good(HEAD + commands + " $)");
    }

    private static void stores() {
        yes("x, G, S, F, START := 1, 2, 3, 4, 5");
        yes("(x), ((G)), (((S))) := 1, 2, 3");
        yes("!x, v!1, v%1, (v!1), (v%1), ((!x)), !F(1), F(1)!2, F(1)%3, \"abc\"!0, \"abc\"%1, (TABLE 1, 2)!0, !5, 5!6, 5%6, !VALOF RESULTIS 5 := 1,2,3,4,5,6,7,8,9,10,11,12,13,14,15,16");
        yes("!(x + 1), !@x, !(1 -> 2, 3), v!!x, v%!x := 1, 2, 3, 4, 5");
        for (String bad : new String[] {"^5", "^M", "^WRITEN", "^F(1)", "(^F(1))".replace("(^", "^("), "^x + 1", "^- x", "^~ !x", "^@x", "^\"abc\"", "^TABLE 1, 2 + 3", "^TRUE",
            "^x = 1", "^x -> x, x", "^(x -> x, x)", "^((x) + 1)", "^(M)", "^VALOF RESULTIS x", "^v!1 + 1", "^1 + v!1", "^@v!1", "^(@x)", "^'a'"}) {
            no(bad + " := 1");
            no("x := 1; x, " + bad + " := 2, 3");
        }
        Check.fault("LET F(a) = a; LET START() BE ^F(y) := 1", 6);
        Check.fault("LET START() BE ^(1 + y) := 1", 6);
        Check.fault("LET START() BE (^y) := 1", 3);
        // Of one place the lowest fault.
        Check.fault("LET START() BE ^y(1) := 1", 3);
        Check.fault("LET START() BE ^y + 1 := 1", 3);
        Check.fault("LET START() BE $( LET x = @^y(1); FINISH $)", 3);
        Check.fault("LET START(a) BE $( LET f() BE ^a + 1 := 2; FINISH $)", 5);
        // A label is no place: the first token counts, and then its name in an E.
        no("L: ^(L) := 1");
        no("L: x := @^(L)");
        no("L: x := 1 + (^L)");
    }

    private static void addresses() {
        yes("x := @x + @G + @S + @F + @v!1 + @!x + @(x) + @((v!1)) + @(!x) + @!@x");
        for (String bad : new String[] {"@^5", "@^M", "@^WRITEN", "@^F(1)", "@^(F(1))", "@^v%1", "@^(v%1)", "@^@x", "@^(@x)", "@^(x + 1)", "@^\"a\"", "@^(-x)", "@^TABLE 1",
            "@^VALOF RESULTIS 1", "@^(x -> x, x)", "1 ! @^5", "@(@^5)!1".replace("@(@^5)!1", "@^(@5)").replace("@5", "@x"), "!@^M", "@^'a'", "v%@^F(2)"}) {
            no("x := " + bad);
        }
        // The links behind go with the @.
        no("x := @^v!1%2");
        yes("x := @v%2!1");
        yes("x := (@v)%2");
        Check.does("LET v = VEC 3; WRITEN(@v!2 - v); WRITEN(@(v!1)!1 - v!1); WRITEN(@(v!1) - v)", "2" + "1" + "1");
    }

    private static void leaving() {
        no("^BREAK");
        no("^LOOP");
        no("^ENDCASE");
        no("IF x ^BREAK");
        no("SWITCHON x INTO $( CASE 1: ^BREAK $)");
        no("SWITCHON x INTO $( CASE 1: ^LOOP $)");
        no("WHILE x DO ^ENDCASE");
        no("WHILE x DO x := VALOF ^BREAK");
        no("WHILE x DO x := VALOF $( ^LOOP $)");
        no("SWITCHON x INTO $( CASE 1: x := VALOF ^ENDCASE $)");
        no("WHILE VALOF ^BREAK DO FINISH");
        no("$( FINISH $) REPEATWHILE VALOF ^BREAK");
        no("WHILE x DO $( LET f() BE ^BREAK; f() $)");
        no("SWITCHON x INTO $( CASE 1: $( LET f() BE ^ENDCASE; f() $) $)");
        no("x := VALOF $( LET f() BE ^RESULTIS 1; f() $)");
        no("^RESULTIS 1");
        no("WHILE x ^RESULTIS x");
        // Behind a loop, a switch or a VALOF what was around it counts again.
        for (String loop : new String[] {"WHILE x DO BREAK", "UNTIL x DO LOOP", "FOR i = 1 TO 2 DO BREAK", "BREAK REPEAT", "LOOP REPEATWHILE x", "BREAK REPEATUNTIL x REPEAT"}) {
            no(loop + "; ^BREAK");
            no(loop + "; ^LOOP");
            no("SWITCHON x INTO $( CASE 1: " + loop + "; ENDCASE; CASE 2: ^LOOP $)");
            yes("WHILE x DO $( " + loop + "; BREAK; LOOP $); $( " + loop + "; IF x BREAK; LOOP $) REPEAT; FOR j = 1 TO 2 DO $( " + loop + "; IF x LOOP; BREAK $)");
        }
        no("SWITCHON x INTO $( DEFAULT: ENDCASE $); ^ENDCASE");
        yes("SWITCHON x INTO $( CASE 1: SWITCHON x INTO $( $); ENDCASE $)");
        no("x := VALOF $( RESULTIS 1 $); ^RESULTIS 2");
        yes("WHILE x DO SWITCHON x INTO $( CASE 1: x := VALOF $( RESULTIS 1 $); IF x LOOP; IF x BREAK; ENDCASE $)");
        yes("x := VALOF $( LET f() = VALOF $( RESULTIS 1 $); RESULTIS f() $); WHILE x $( LET f() BE RETURN; f(); IF x BREAK; IF x LOOP; SWITCHON x INTO $( CASE 1: $( LET g() = 1; IF g() LOOP; IF x BREAK; ENDCASE $) $) $)");
        yes("WHILE x BREAK; UNTIL x LOOP; FOR i = 1 TO 2 BREAK; BREAK REPEAT; LOOP REPEATWHILE x; BREAK REPEATUNTIL x");
        yes("WHILE x SWITCHON x INTO $( CASE 1: BREAK; CASE 2: LOOP; CASE 3: ENDCASE $)");
        yes("SWITCHON x INTO $( CASE 1: WHILE x ENDCASE $)");
        yes("x := VALOF WHILE x DO $( BREAK; RESULTIS 1 $); x := VALOF SWITCHON x INTO $( DEFAULT: ENDCASE; CASE 1: RESULTIS 2 $)");
        yes("x := VALOF RESULTIS VALOF RESULTIS 1; RETURN; x := VALOF RETURN");
        Check.fault("LET START() = VALOF ^RETURN", 6);
        Check.fault("LET START() = VALOF $( LET f() BE RETURN; f(); ^RETURN $)", 6);
        Check.fault("LET START() BE $( LET f() = VALOF ^RETURN; f(); RETURN $)", 6);
        Check.fault("LET START() BE FINISH; LET F() BE ^RESULTIS 1", 6);
    }

    private static void switches() {
        no("SWITCHON x INTO $( CASE 1: FINISH; CASE 2: CASE ^1: FINISH $)");
        no("SWITCHON x INTO $( CASE 2: FINISH; CASE ^M + 1: FINISH $)");
        no("SWITCHON x INTO $( CASE -1: FINISH; CASE ^TRUE: FINISH $)");
        no("SWITCHON x INTO $( CASE #XFFFFFFFF: FINISH; CASE ^-(1): FINISH $)");
        no("SWITCHON x INTO $( DEFAULT: FINISH; ^DEFAULT: FINISH $)");
        no("SWITCHON x INTO $( DEFAULT: SWITCHON x INTO $( DEFAULT: CASE 1: $); CASE 1: ; ^DEFAULT: $)");
        no("SWITCHON x INTO $( CASE 1: SWITCHON x INTO $( CASE 1: $); CASE ^1: $)");
        yes("SWITCHON x INTO $( CASE 1: SWITCHON x INTO $( CASE 1: DEFAULT: $); CASE 2: DEFAULT: $)");
    }

    private static void tooMuch() {
        // 1500 words of statics, routines' names, strings and tables.
        String table = "LET F() = TABLE 1" + Check.times(",1", 1497);
        Check.due("1500 words", Check.compiled(table + "; LET START() BE FINISH"), "ok 1600");
        Check.fault(table + ",1; LET START() BE FINISH", 7, 0);
        Check.fault("STATIC $( A = 1 $); " + table + "; LET START() BE FINISH", 7, 0);
        Check.due("a global takes none", Check.compiled("GLOBAL $( A: 1 $); MANIFEST $( B = 1 $); " + table + "; LET START() BE FINISH"), "ok 1600");
        Check.fault("LET F() = \"\"; LET START() BE FINISH; LET G() = TABLE 1" + Check.times(",1", 1496), 7, 0);
        // 200 routines.
        StringBuilder many = new StringBuilder("LET START() BE FINISH");
        for (int i = 2; i <= 200; i++) {
            many.append(";LET R").append(i).append("()=1");
        }
        Check.due("200 routines", Check.compiled(many.toString()), "ok 300");
        Check.fault(many + ";LET R() = 1", 7, 0);
        Check.fault(many.toString().replace("FINISH", "$( LET R() = 1 $)"), 7, 0);
        Check.fault("GLOBAL $( R: 1 $); " + many + ";LET R() = 1", 7, 0);
        // Frames of 32000 words: two, the names, the vectors.
        Check.good("LET START() BE $( LET v = VEC 30000; LET w = VEC 1994 $)");
        Check.fault("LET START() BE $( LET v = VEC 30000; LET w = VEC 1995 $)", 7, 0);
        Check.fault("LET START() BE $( LET v, w = VEC 30000, VEC 1995 $)", 7, 0);
        Check.good("LET START() BE $( $( LET v = VEC 30000; v!0 := 1 $); $( LET v = VEC 30000; v!0 := 1 $) $)");
        Check.good("LET START() BE $( LET v = VEC 30000; LET w = VEC 1992; FOR i = 1 TO 2 DO FINISH $)");
        Check.fault("LET START() BE $( LET v = VEC 30000; LET w = VEC 1993; FOR i = 1 TO 2 DO FINISH $)", 7, 0);
        Check.good("LET START(a) BE $( LET v = VEC 30000; LET w = VEC 1993 $)");
        Check.fault("LET START(a) BE $( LET v = VEC 30000; LET w = VEC 1994 $)", 7, 0);
        Check.fault("LET START() BE FINISH; LET F() = VALOF $( LET v = VEC 30000; LET w = VEC 1995; RESULTIS 1 $)", 7, 0);
        Check.fault("LET START() BE $( " + Check.times("$( LET v = VEC 30000; ", 50) + Check.times("$)", 50) + " $)", 7, 0);
        Check.good("LET START() BE $( LET F() BE $( LET v = VEC 30000 $); LET w = VEC 30000 $)");
        // START must be a routine of the text.
        Check.fault("LET F() BE $( LET START() BE FINISH; START() $)", 7, 0);
        Check.fault("STATIC $( START = 1 $)", 7, 0);
        Check.fault("LET Start() BE FINISH", 7, 0);
        Check.fault("LET F() BE FINISH; LET G() BE ^x := 1", 3);
        Check.prints("LET F(a) = a + 1 AND START() BE WRITEN(F(1))", "2");
    }
}
