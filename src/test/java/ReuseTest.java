/** What one call leaves is nothing to the next but what the document says: one object answers as new ones do (promises 4, 5, 8, 9, 10, 12, 13). */
public final class ReuseTest {
    private static final String[] TEXTS = {
        // Faults of all kinds, with all that may stand open there.
        "LET START() BE $(A $(B $( ?",
        "LET START() BE $(B WRITEN(1) $)A",
        "LET START() BE $(A WRITEN(VALOF $( x := " + Check.times("(", 59) + "1 ]",
        "LET START() = " + Check.times("(", 60) + "1" + Check.times(")", 60),
        "LET START() = " + Check.times("- ", 60) + "1",
        "LET START() = " + Check.times("(", 61) + "1",
        "LET START() BE $( FINISH" + Check.times(" REPEAT", 61) + " $)",
        "LET START() BE $( a" + Check.times("!1", 61),
        "LET START() BE FOR i = 1 TO 2 BY 3 DO WRITEN(x)",
        "LET START() BE FOR i = 1 TO 3 DO WRITEN(i)",
        "LET START() BE FOR i = 9 TO 1 BY -4 DO WRITEN(i)",
        "MANIFEST $( M = 1 / 0 $); LET START() BE FINISH",
        "MANIFEST $( M = 7 $); STATIC $( S = M + 1 $); LET START() BE $( LET v = VEC M; v!M := S; WRITEN(v!M + (TABLE M)!0) $)",
        "GLOBAL $( START: 5; F: 6 $); LET START() BE WRITEN(F()); LET F() = 3",
        "LET START() BE WRITEN(F()); LET F() = 3",
        "LET START() BE $( LET F() = 3; WRITEN(F()) $)",
        "LET F() BE $( LET v = VEC 30000; LET w = VEC 30000; FINISH $); LET START() BE FINISH",
        "LET START() BE WRITEN(1)",
        "LET A() = 1; LET B() = 2; LET F() BE $( LET v, w = VEC 30000, VEC 30000; FINISH $)",
        "LET START() = 1",
        // Labels, cases, loops and what a run leaves on its way.
        "LET START() BE $( LET i = 0; L: i := i + 1; IF i < 5 GOTO L; M: WRITEN(i); IF i > 6 GOTO OUT; i := i + 1; GOTO M; OUT: FINISH $)",
        "LET F(a) = a + 1 AND START() BE $( WRITEN(F(1) + F(2) * F(3)); WRITES(\"abc\"); WRITEN((TABLE 4, 5, 6)!2) $)",
        "LET START() BE SWITCHON 3 INTO $( CASE 1: WRITEN(1); CASE 3: WRITEN(3); ENDCASE; DEFAULT: WRITEN(9) $)",
        "LET START() BE SWITCHON 3 INTO $( CASE 1: CASE 1: $)",
        "LET START() BE SWITCHON 3 INTO $( CASE 1: WRITEN(1); DEFAULT: WRITEN(9) $)",
        "LET START() BE SWITCHON 3 INTO $( CASE 1: WRITEN(1) $)",
        "LET START() = 5 + (6 + 1 / 0)",
        "LET START() = VALOF $( !4095 := 5; !(-1) := 1 $)",
        "LET START() = !4095 + !4094 + !110",
        "LET F(n) = F(n + 1) + 1; LET START() = F(0)",
        "LET START() BE $( LET v = VEC 50; FOR i = 0 TO 50 DO v!i := i * i; STOP(v!50) $)",
        "LET START() BE $( LET v = VEC 50; FOR i = 0 TO 50 DO IF v!i DO WRITEN(i); FINISH $)",
        "LET START() BE $( FOR i = 1 TO 100 DO GETVEC(9); WRITEN(GETVEC(0)); SELECTOUTPUT(1); WRITES(\"one\"); SELECTINPUT(3) $)",
        "LET START() BE $( WRITEN(GETVEC(0)); WRITEN(RDCH()) $)",
        "LET START() BE WHILE TRUE DO ;",
        "LET START() BE APTOVEC(7, 5)",
        "LET START() BE $( LET F() BE RETURN; LET x = 1; x := VALOF $( LET y = 2; RESULTIS y $); WRITEN(x + F()) $)",
        "LET START() BE BREAK",
        "LET START() = VALOF $( WHILE TRUE DO $( RESULTIS 7 $) $)",
        "LET F() BE FINISH",
        "LET START() BE $( LET a, a = 1, 2; FINISH $)",
        "LET START() BE $( LET a, b = 1, 2; $( LET c = 3; WRITEN(a + b + c) $); b: FINISH $)",
        "LET START() BE $( LET a, b = 1, 2; $( LET c = 3; WRITEN(a + b + c) $); c: FINISH $)",
        "",
        "LET START() BE WRITES(\"*",
        "LET START() BE WRITES(\"" + Check.times("x", 150) + "\")",
        "LET START(x) BE x := 1 < 2 < (3 -> 1, 0) < 7 & (1 = 1)",
        "LET START(x) = 2 > 1 > 0",
        "\n\n// nothing",
        "WRITEN",
        "LET\nSTART() = 4",
        "LET F() = nothing; LET START() BE ?",
        "LET F() = nothing; LET START() BE FINISH",
        "LET START() BE FINISH; LET F() BE BREAK; LET G() = )",
        "LET START() BE $( GETVEC(99); GETVEC(50); GETVEC(7); GETVEC(300) $)",
        "LET START() BE FOR i = 1 TO 5 DO $( WRITEN(GETVEC(0)); WRITEN(GETVEC(1)) $)",
        "LET START() BE FOR i = 1 TO 9 DO WRITEN(GETVEC(0))",
        "LET START() BE FOR i = 1 TO 9 DO WRITEN(GETVEC(i * 3))",
        "GLOBAL $( G: 3 $); LET START() = 1 AND G() = 2",
        "LET START() = 1 AND G() = 2",
    };

    public static void main(String[] args) {
        // Each text behind each other one.
        for (int step = 1; step < TEXTS.length; step += 4) {
            for (int i = 0; i < TEXTS.length; i++) {
                WordTongue reused = new WordTongue();
                same(reused, TEXTS[i], "a text of its own");
                same(reused, TEXTS[(i + step) % TEXTS.length], TEXTS[i]);
                same(reused, TEXTS[(i + 7 * step) % TEXTS.length], TEXTS[(i + step) % TEXTS.length]);
            }
        }
        for (int i = 0; i < TEXTS.length; i++) {
            twice(TEXTS[i]);
        }
        Check.end();
    }

    private static void same(WordTongue reused, String text, String before) {
        WordTongue fresh = new WordTongue();
        String what = " of <" + text + "> behind <" + before + ">";
        Check.due("compile" + what, Check.compile(reused, text), Check.compile(fresh, text));
        Check.due("fault" + what, reused.fault(), fresh.fault());
        int answer = fresh.run(500);
        Check.due("run" + what, reused.run(500), answer);
        if (answer >= 0) {
            same(reused, fresh, what);
        }
    }

    private static void same(WordTongue x, WordTongue y, String what) {
        Check.due("value" + what, x.value(), y.value());
        Check.due("fuel" + what, x.fuel(), y.fuel());
        Check.due("out(0)" + what, Check.out(x, 0), Check.out(y, 0));
        Check.due("out(1)" + what, Check.out(x, 1), Check.out(y, 1));
        for (int address : new int[] {0, 1, 2, 5, 6, 99, 100, 101, 102, 103, 104, 105, 106, 107, 108, 109, 110, 111, 130, 150, 200, 3000, 4094, 4095}) {
            Check.due("word(" + address + ")" + what, x.word(address), y.word(address));
        }
    }

    /** A second run answers as the first one did. */
    private static void twice(String text) {
        WordTongue x = new WordTongue();
        WordTongue y = new WordTongue();
        Check.compile(x, text);
        Check.compile(y, text);
        x.run(500);
        x.run(3);
        x.run(100);
        Check.due("run of <" + text + "> again", x.run(500), y.run(500));
        same(x, y, " of <" + text + "> again");
    }
}
