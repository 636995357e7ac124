/** Texts with bytes and words changed at random: no call throws, and every answer is one of those that may be due (promises 4, 5, 8). */
public final class NoiseTest {
    private static final String[] TEXTS = {
        "GLOBAL $( START: 1; G: 2 $)\nMANIFEST $( M = 3; N = M * 2 - 1 $)\nSTATIC $( S = M -> 1, 2 $)\n"
            + "LET F(v, n) BE $( FOR i = 0 TO n DO v!i := i; WRITEN(v!n) $) AND H(n) = n = 0 -> 1, n * H(n - 1)\n"
            + "LET START() BE $(A LET a, v = GETVEC(9), VEC 10\n LET b = H(M)\n WRITEN(a - b); FREEVEC(a); APTOVEC(F, 5)\n"
            + " SWITCHON v!3 INTO $(B CASE 8: WRITES(\"eight*N\"); ENDCASE\n CASE 9: DEFAULT: WRITEN(1 < b <= 6) $)\n L: b := b - 1\n"
            + " IF b > 0 GOTO L\n v%5, !v := #X1F, 'x'; WRITED(v!1, 9)\n $)A\n",
        "LET START() BE $( LET x = VALOF $( LET s = 0; FOR i = 10 TO 0 BY -2 DO s := s + i; RESULTIS s $)\n"
            + " $( x := x - 1; IF x REM 3 = 0 LOOP; UNLESS x < 9 DO WRITEN(x) $) REPEATWHILE x > 0 REPEATUNTIL x <= 0\n"
            + " TEST x THEN RETURN ELSE WRITEN((TABLE 1, 2, 3)!1 << 3 | 1)\n WHILE READN() DO $( WRCH(RDCH()); UNRDCH() $)\n"
            + " WRITEHEX(@x, 4); WRITEN(MULDIV(x, \"ab\"%1, 7)); STOP(~x NEQV - 5) $)",
    };
    private static final String[] WORDS = {"$(", "$)", "(", ")", ",", ";", ":=", ":", "!", "%", "@", "+", "-", "/", "REM", "=", "<", "->", "~", "$(A", "$)A", "$)B", "VALOF",
        "TABLE", "IF", "DO", "OR", "TEST", "WHILE", "REPEAT", "REPEATWHILE", "FOR", "TO", "BY", "SWITCHON", "INTO", "CASE", "DEFAULT", "BREAK", "LOOP", "ENDCASE",
        "RETURN", "RESULTIS", "FINISH", "GOTO", "LET", "AND", "BE", "GLOBAL", "MANIFEST", "STATIC", "VEC", "GET", "x", "a", "0", "-1", "\n", "\"", "'", "//", "START", "APTOVEC(GETVEC, "};
    private static long seed = 12345;

    public static void main(String[] args) {
        WordTongue x = new WordTongue();
        for (int i = 0; i < 6000; i++) {
            if (i % 10 == 0) {
                x = new WordTongue();
                Check.input(x, 0, "12 -7 abc 99999999999 ");
            }
            String text = TEXTS[i % TEXTS.length];
            for (int j = random(4); j >= 0; j--) {
                text = changed(text);
            }
            answers(x, text);
        }
        deep();
        large();
        Check.end();
    }

    private static int random(int below) {
        seed = seed * 6364136223846793005L + 1442695040888963407L;
        return (int) ((seed >>> 33) % below);
    }

    private static String changed(String text) {
        int from = random(text.length() + 1);
        int to = Math.min(text.length(), from + random(4));
        switch (random(4)) {
            case 0:
                return text.substring(0, from) + text.substring(to);
            case 1:
                return text.substring(0, from) + (char) random(256) + text.substring(to);
            case 2:
                return text.substring(0, from) + " " + WORDS[random(WORDS.length)] + " " + text.substring(from);
            default:
                return text.substring(0, from) + text.substring(random(text.length() + 1));
        }
    }

    private static void answers(WordTongue x, String all) {
        String text = all.substring(0, Math.min(all.length(), 6000));
        int answer = Check.compile(x, text);
        int fault = x.fault();
        boolean isGood = fault == 0 && answer >= 100 && answer <= 1600;
        boolean isFault = fault >= 1 && fault <= 7 && answer <= -1 && -1 - answer <= text.length();
        Check.due("compile of <" + text + "> is in its range", isGood || isFault, true);
        int end = x.run(random(300));
        Check.due("run of <" + text + "> is in its range", isGood ? end >= 0 && end <= 6 : end == -1, true);
        Check.due("outputs are in their range", x.out(0) >= 0 && x.out(0) <= 4096 && x.out(1) >= 0 && x.fuel() >= 0, true);
    }

    private static void deep() {
        String[] parts = {"(", "$(", "$( LET f() BE ", "$( LET f() = VALOF ", "IF 1 ", "VALOF ", "TABLE ", "1 -> ", "WRITEN(", "FOR i = VALOF ", "SWITCHON 1 INTO $( CASE 1: ",
            "!1 := VALOF ", "-", "!", "1!", "1%@", "x := TABLE VALOF ", "TEST 1 THEN F() OR ", "WHILE VALOF ", "F() REPEATWHILE VALOF ", "STATIC $( S = "};
        for (String part : parts) {
            for (int count : new int[] {10, 59, 60, 61, 500}) {
                answers(new WordTongue(), "LET START() BE " + Check.times(part, count));
                answers(new WordTongue(), "LET START() = " + Check.times(part, count) + "1");
                answers(new WordTongue(), "LET START() BE $( LET x = " + Check.times(part, count) + "1" + Check.times(")", count) + Check.times(" $)", count));
            }
        }
    }

    private static void large() {
        for (String part : new String[] {"a", "1+", "\"\",", "F();", "x,", "x:", "1(2)", "!x:=1;", "1->1,", "LET F()BE;", "$(;$);", "REPEAT ", "1<", "'a'", "TABLE 1,2,"}) {
            for (String head : new String[] {"", "LET START()BE ", "LET START()BE $(", "LET START()=", "LET START()BE $(LET x=1;x:="}) {
                answers(new WordTongue(), head + Check.times(part, 6000 / part.length()));
            }
        }
        answers(new WordTongue(), "LET START()BE $(LET x=1;WHILE TRUE DO x:=" + Check.times("x+", 2900) + "1 $)");
    }
}
