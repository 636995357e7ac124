/** What takes fuel, and what a run without it answers (promises 8 and 13). */
public final class FuelTest {
    public static void main(String[] args) {
        commands();
        loops();
        calls();
        ends();
        Check.end();
    }

    /** Commands within START's block take so much, beside the one that START takes. */
    private static void does(String commands, int fuel) {
        Check.takes(Check.start(commands), fuel + 1);
    }

    private static void commands() {
        Check.takes("LET START() = 5", 1);
        does("", 0);
        does("$( $); ; $( ; $( $) $)", 0);
        Check.takes("LET START() BE ;", 1);
        does("LET x = 1", 1);
        does("LET x, y, z = 1, 2, VEC 3", 1);
        does("LET x = 1; LET y = 2", 2);
        does("LET F() = 1; STATIC $( S = 1 $); MANIFEST $( M = 1 $); GLOBAL $( G: 1 $)", 0);
        does("LET x = 1; x := 2; x, x := 3, 4", 3);
        does("L: M: FINISH", 1);
        does("GOTO L; WRITEN(1); L:", 1);
        does("RETURN; WRITEN(1)", 1);
        does("IF TRUE DO ;", 1);
        does("IF TRUE DO $( $)", 1);
        does("IF TRUE DO WRITEN(1); IF FALSE DO WRITEN(2)", 3);
        does("UNLESS FALSE DO WRITEN(1); UNLESS TRUE DO WRITEN(2)", 3);
        does("TEST TRUE THEN WRITEN(1) ELSE $( $); TEST FALSE THEN WRITEN(1) ELSE $( $)", 3);
        does("SWITCHON 2 INTO $( CASE 1: WRITEN(1); CASE 2: CASE 3: DEFAULT: WRITEN(2); ENDCASE $)", 3);
        does("SWITCHON 2 INTO $( CASE 1: $)", 1);
        does("LET x = VALOF RESULTIS 1", 2);
        does("LET x = VALOF $( LET y = 1; RESULTIS y $)", 3);
        does("LET x = VALOF $( $)", 1);
    }

    private static void loops() {
        does("WHILE FALSE DO WRITEN(1); UNTIL TRUE DO WRITEN(1)", 4);
        does("LET x = 3; WHILE x DO x := x - 1", 1 + 1 + 4 + 3);
        does("LET x = 3; UNTIL x = 0 DO $( x := x - 1 $)", 1 + 1 + 4 + 3);
        does("WHILE TRUE DO BREAK", 3);
        does("LET x = 3; x := x - 1 REPEATWHILE x", 1 + 3 + 3);
        does("LET x = 3; $( x := x - 1 $) REPEATUNTIL x = 0", 1 + 3 + 3);
        does("BREAK REPEAT", 1);
        does("LET x = 3; $( x := x - 1; IF x = 0 BREAK $) REPEAT", 1 + 3 + 3 + 1 + 2);
        does("LET x = 3; $( x := x - 1; IF x = 0 BREAK; LOOP $) REPEAT", 1 + 3 + 3 + 1 + 2 + 2);
        does("LET x = 3; x := x - 1 REPEATWHILE x > 1 REPEATUNTIL x <= 0", 1 + 3 + 3 + 2);
        does("FOR i = 1 TO 3 DO ;", 1 + 4);
        does("FOR i = 1 TO 3 DO WRITEN(i)", 1 + 4 + 3);
        does("FOR i = 1 TO 0 DO WRITEN(i)", 2);
        does("FOR i = 1 TO 3 DO IF i = 2 LOOP", 1 + 4 + 3 + 1);
        does("FOR i = 1 TO 3 DO IF i = 2 BREAK", 1 + 2 + 2 + 1);
        // Nothing within, and yet each asking takes one.
        Check.fails(Check.start("WHILE TRUE DO ;"), 1, "");
        Check.fails(Check.start("$( $) REPEAT"), 1, "");
        Check.fails(Check.start("$( $) REPEATWHILE TRUE"), 1, "");
        Check.fails(Check.start("FOR i = 1 TO 2 BY 0 DO ;"), 1, "");
        Check.fails(Check.start("L: GOTO L"), 1, "");
        Check.fails("LET F() = G() AND G() = 1; LET START() BE WHILE F() DO F()", 1, "");
    }

    private static void calls() {
        Check.takes("LET F() = 1; LET START() = F()", 2);
        Check.takes("LET F() = 1; LET START() = F() + F() + F()", 4);
        Check.takes("LET F() BE RETURN; LET START() BE F()", 4);
        does("WRITEN(1); NEWLINE(); WRITEN(ABS(GETVEC(MULDIV(1, 1, 1))))", 3);
        // The fuel is taken also when the frame is refused.
        WordTongue x = new WordTongue();
        Check.compile(x, "LET F() BE $( LET v = VEC 4096; FINISH $); LET START() = F()");
        Check.due("run", x.run(10), 5);
        Check.due("fuel", x.fuel(), 8);
        Check.due("run with too little for F", x.run(1), 1);
        Check.due("fuel", x.fuel(), 0);
        Check.compile(x, "LET START() BE $( LET v = VEC 4096; FINISH $)");
        Check.due("run", x.run(10), 5);
        Check.due("fuel", x.fuel(), 9);
        Check.due("run without fuel", x.run(0), 1);
        Check.compile(x, "LET F() = F(); LET START() = F()");
        Check.due("run to 101 calls", x.run(1000), 5);
        Check.due("fuel", x.fuel(), 1000 - 101);
        Check.due("run with 100", x.run(100), 1);
        Check.due("run with 101", x.run(101), 5);
        // What is no entry is told first, and takes none.
        Check.compile(x, "LET START() = 7()");
        Check.due("run", x.run(1), 4);
        Check.due("fuel", x.fuel(), 0);
    }

    private static void ends() {
        WordTongue x = new WordTongue();
        Check.compile(x, Check.start("WRITES(\"a\"); WRITES(\"b\"); WRITES(\"c\")"));
        for (int fuel = 0; fuel <= 3; fuel++) {
            Check.due("run(" + fuel + ")", x.run(fuel), 1);
            Check.due("fuel", x.fuel(), 0);
            Check.due("out", Check.out(x, 0), "abc".substring(0, Math.max(0, fuel - 1)));
            Check.due("value", x.value(), 0);
        }
        Check.due("run(4)", x.run(4), 0);
        Check.due("out", Check.out(x, 0), "abc");
        Check.due("run(100000)", x.run(100000), 0);
        Check.due("fuel", x.fuel(), 99996);
        Check.due("run(-1)", x.run(-1), -1);
        Check.due("run(100001)", x.run(100001), -1);
        Check.due("fuel stays", x.fuel(), 99996);
        Check.due("out stays", Check.out(x, 0), "abc");
        Check.compile(x, Check.start("STOP(3)"));
        Check.due("fuel stays behind compile", x.fuel(), 99996);
        Check.due("run(5)", x.run(5), 6);
        Check.due("fuel behind STOP", x.fuel(), 3);
        Check.compile(x, Check.start("FINISH"));
        Check.due("run(5)", x.run(5), 0);
        Check.due("fuel behind FINISH", x.fuel(), 3);
        Check.compile(x, Check.start("!(-1) := 1"));
        Check.due("run(5)", x.run(5), 2);
        Check.due("fuel behind an error", x.fuel(), 3);
    }
}
