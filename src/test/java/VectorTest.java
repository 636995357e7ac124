/** GETVEC, FREEVEC and APTOVEC, frames and the vectors got (promise 8). */
public final class VectorTest {
    public static void main(String[] args) {
        getting();
        freeing();
        floors();
        frames();
        applying();
        applyingErrors();
        applyingLibrary();
        Check.end();
    }

    private static void getting() {
        Check.does("WRITEN(GETVEC(0)); WRCH(' '); WRITEN(GETVEC(9)); WRCH(' '); WRITEN(GETVEC(0)); WRITEN(GETVEC(-1)); WRITEN(GETVEC(-2147483648)); WRITEN(GETVEC(2147483647)); WRITEN(GETVEC(4096)); WRCH(' '); WRITEN(GETVEC())", "4095 4085 40840000 4083");
        // Its words lie as they lie there.
        Check.does("!4095, !4094 := 7, 8; WRITEN(GETVEC(1)!0); WRITEN(!4095)", "87");
        Check.does("FOR i = 1 TO 100 DO GETVEC(0); WRITEN(GETVEC(0)); FREEVEC(4000); WRITEN(GETVEC(0)); WRITEN(GETVEC(0))", "040000");
        // As high as they are free: a gap that is large enough comes first.
        Check.does("LET a, b, c = GETVEC(9), GETVEC(4), GETVEC(2); FREEVEC(b); WRITEN(GETVEC(5) - c); WRITEN(GETVEC(4) - b); WRITEN(GETVEC(0) - c)", "-60-7");
        Check.does("LET a, b, c = GETVEC(9), GETVEC(4), GETVEC(2); FREEVEC(b); WRITEN(GETVEC(0) - b); WRITEN(GETVEC(2) - b); WRITEN(GETVEC(1) - b)", "41-5");
        Check.does("LET a, b, c = GETVEC(9), GETVEC(4), GETVEC(2); FREEVEC(a); FREEVEC(b); WRITEN(GETVEC(14) = b)", "-1");
        Check.does("LET a, b, c = GETVEC(9), GETVEC(4), GETVEC(2); FREEVEC(c); FREEVEC(a); WRITEN(GETVEC(10) < b); WRITEN(GETVEC(9) = a)", "-1-1");
    }

    private static void freeing() {
        Check.does("WRITEN(FREEVEC(0)); WRITEN(FREEVEC()); WRITEN(FREEVEC(GETVEC(5)))", "000");
        Check.fails(Check.start("LET a = GETVEC(5); WRITEN(1); FREEVEC(a + 1)"), 2, "1");
        Check.fails(Check.start("LET a = GETVEC(5); FREEVEC(a); WRITEN(1); FREEVEC(a)"), 2, "1");
        Check.fails(Check.start("FREEVEC(4095)"), 2, "");
        Check.fails(Check.start("FREEVEC(-1)"), 2, "");
        // Nothing is got when a run begins.
        WordTongue x = new WordTongue();
        Check.compile(x, "LET START() = GETVEC(3000)");
        for (int i = 0; i < 3; i++) {
            Check.due("run", x.run(10), 0);
            Check.due("the same vector again", x.value(), 1095);
        }
    }

    private static void floors() {
        // START's frame lies at 101 and has two words and those of its variables.
        Check.does("WRITEN(GETVEC(4095 - 103)); WRCH(' '); WRITEN(GETVEC(0))", "103 0");
        Check.does("WRITEN(GETVEC(4096 - 103))", "0");
        Check.does("LET x = 0; x := GETVEC(4095 - 104); WRITEN(x)", "104");
        Check.does("LET x = 0; x := GETVEC(4096 - 104); WRITEN(x)", "0");
        // All words count that the routine may come to use.
        Check.does("WRITEN(GETVEC(4095 - 106)); IF FALSE $( LET v = VEC 1; v!0 := 1 $)", "106");
        Check.does("WRITEN(GETVEC(4096 - 106)); IF FALSE $( LET v = VEC 1; v!0 := 1 $)", "0");
        // The floor is that of the routine at hand: F's frame lies at 105 and ends at 108.
        Check.prints("LET F(a) = GETVEC(a); LET START() BE $( LET x = 1; WRITEN(F(4096 - 108)); WRITEN(F(4096 - 109)) $)", "0108");
        // Routines within have frames of their own: START's lies at 102 and has three words, or five.
        Check.does("LET F() BE $( LET v = VEC 9; FINISH $); LET x = 0; x := GETVEC(4095 - 105); WRITEN(x)", "105");
        Check.does("LET F() BE $( LET v = VEC 9; FINISH $); LET x = 0; x := GETVEC(4096 - 105); WRITEN(x)", "0");
        Check.does("LET x, y, z = 0, 1, 2; LET F() = 1; x := GETVEC(4095 - 107); WRITEN(x)", "107");
        Check.does("LET x, y, z = 0, 1, 2; LET F() = 1; x := GETVEC(4096 - 107); WRITEN(x)", "0");
        Check.does("LET x, y, z = 0, 1, 2; $( LET F() = 1; x := GETVEC(4096 - 107); WRITEN(x) $)", "0");
    }

    private static void frames() {
        // No frame may go on beyond the lowest vector: F's lies at 105 and ends at 108.
        Check.prints("LET F(a) = a; LET START() BE $( LET x = GETVEC(4096 - 109); WRITEN(x); WRITEN(F(5)) $)", "1085");
        Check.fails("LET F(a) = a; LET START() BE $( LET x = GETVEC(4096 - 108); WRITEN(x); WRITEN(F(5)) $)", 5, "107");
        // A vector that was freed is in no frame's way.
        Check.prints("LET F(a) = a; LET START() BE $( LET x = GETVEC(4096 - 108); FREEVEC(x); WRITEN(F(5)) $)", "5");
        // B is behind the words in use: what a block left is free again, arguments take none.
        Check.prints("LET F(a) = @a - 2; LET START() BE $( WRITEN(F(1)); $( LET x, y = 1, F(1); LET z = F(1); WRITEN(y - z); WRITEN(F(1)) $); WRITEN(F(F(1)) - F(1)) $)", "104-21070");
        Check.prints("LET F(a) = @a - 2; LET START() BE $( FOR i = F(1) TO F(1) DO $( WRITEN(i); WRITEN(F(2)) $); WRITEN(F(3)) $)", "104106104");
        Check.prints("LET F(a) = @a - 2; LET START(p, q) BE $( LET v, x = VEC 3, 5; WRITEN(F(1) - @p); WRITEN(v - @p); WRITEN(@x - @p) $)", "843");
        // The words of a block lie as they lie there; a routine's first two words are the caller's B and its entry.
        Check.does("$( LET a, b = 7, 8; a := b $); $( LET v = VEC 1; WRITEN(v!0); WRITEN(v!(-1) = v) $)", "8-1");
        Check.prints("LET F(a) BE $( WRITEN((@a)!(-2)); WRITEN((@a)!(-1)) $); LET START() BE F(1)", "1021000000");
        Check.prints("LET START() BE F(1) AND G() = 1 AND F(a) BE $( WRITEN((@a)!(-2)); WRITEN((@a)!(-1)) $)", "1031000002");
    }

    private static void applying() {
        String f = "LET F(v, n) BE $( WRITEN(v); WRCH(' '); WRITEN(n); WRCH(' '); WRITEN(@v - 2); WRCH(' '); WRITEN((@v)!(-2)) $); ";
        // START's frame lies at 102 and has two words: the vector lies at 104, F's frame behind it.
        Check.prints(f + "LET START() BE APTOVEC(F, 5)", "104 5 110 102");
        Check.prints(f + "LET START() BE APTOVEC(F)", "104 0 105 102");
        Check.prints(f + "LET START() BE $( LET x = 3; APTOVEC(F, 1, 2, 3) $)", "105 1 107 102");
        Check.prints("LET F(v, n) = v * 10 + n; LET START() BE WRITEN(1 + APTOVEC(F, 7))", "1048");
        Check.prints("LET F(v, n) = VALOF $( FOR i = 0 TO n DO v!i := i; RESULTIS v!n + v!1 $); LET START() BE WRITEN(APTOVEC(F, 9))", "10");
        Check.prints("LET F(v) = v!0; LET START() BE $( $( LET a, b = 5, 6; a := 7 $); WRITEN(APTOVEC(F, 0)) $)", "7");
        Check.prints("LET F() = 9; LET START() BE WRITEN(APTOVEC(F, 100))", "9");
        Check.prints("LET G(v, n) = v; LET F(v, n) = APTOVEC(G, n) - v; LET START() BE WRITEN(APTOVEC(F, 4))", "9");
        // A library's routine is not under way: 100 of the text are.
        Check.prints("LET F(v, n) = n = 0 -> 0, 1 + APTOVEC(F, n - 1); LET START() BE WRITEN(APTOVEC(F, 50))", "50");
        Check.prints("LET G(v, n) = 0; LET F(n) = n = 0 -> APTOVEC(G, 0), 1 + F(n - 1); LET START() BE WRITEN(F(97))", "97");
        Check.fails("LET G(v, n) = 0; LET F(n) = n = 0 -> APTOVEC(G, 0), 1 + F(n - 1); LET START() BE WRITEN(F(98))", 5, "");
        Check.takes("LET F(v, n) = n; LET START() BE APTOVEC(F, 7)", 3);
    }

    private static void applyingErrors() {
        String f = "LET F(v, n) BE WRITEN(n); LET START() BE $( WRITEN(1); ";
        Check.fails(f + "APTOVEC(5, 5) $)", 4, "1");
        Check.fails(f + "APTOVEC() $)", 4, "1");
        Check.fails(f + "APTOVEC(1000002, 5) $)", 4, "1");
        Check.fails(f + "APTOVEC(999999, -1) $)", 4, "1");
        Check.fails(f + "APTOVEC(2000018, 5) $)", 4, "1");
        Check.fails(f + "APTOVEC(F, -1) $)", 2, "1");
        Check.fails(f + "APTOVEC(F, 4096) $)", 2, "1");
        Check.fails(f + "APTOVEC(F, 4095) $)", 5, "1");
        Check.fails(f + "APTOVEC(F, 2147483647) $)", 2, "1");
        // F's frame has four words; all must end within the store.
        Check.prints(f + "APTOVEC(F, 4096 - 104 - 5) $)", "13987");
        Check.fails(f + "APTOVEC(F, 4096 - 104 - 4) $)", 5, "1");
        Check.fails(f + "WRITEN(GETVEC(0)); APTOVEC(F, 4096 - 104 - 5) $)", 5, "14095");
        Check.prints(f + "WRITEN(GETVEC(0)); APTOVEC(F, 4096 - 104 - 6) $)", "140953986");
        // Without fuel the routine is not asked how large its frame is; with fuel it takes one.
        WordTongue x = new WordTongue();
        Check.compile(x, "LET F() = 1; LET START() = APTOVEC(F, 4095)");
        Check.due("run with one", x.run(1), 1);
        Check.due("run with two", x.run(2), 5);
        Check.due("fuel", x.fuel(), 0);
        Check.compile(x, "LET F() = 1; LET START() = APTOVEC(F, 4096)");
        Check.due("run with one", x.run(1), 2);
    }

    private static void applyingLibrary() {
        // START's frame lies at 101 and has two words.
        Check.does("APTOVEC(WRITEN, 7); APTOVEC(WRITED, 5)", "103  103");
        Check.does("APTOVEC(WRITEN, 4095 - 103); WRITEN(APTOVEC(ABS, 3)); WRITEN(APTOVEC(WRCH, 0))", "103103g0");
        Check.fails(Check.start("APTOVEC(WRITEN, 4096 - 103)"), 5, "");
        Check.fails(Check.start("APTOVEC(WRITEN, 4096)"), 2, "");
        Check.fails(Check.start("GETVEC(3); APTOVEC(WRITEN, 4096 - 107); APTOVEC(WRITEN, 4092 - 103)"), 5, "");
        Check.does("GETVEC(3); APTOVEC(WRITEN, 4091 - 103)", "103");
        Check.does("WRITEN(APTOVEC(GETVEC, 3))", "" + (4096 - 104));
        Check.fails(Check.start("APTOVEC(FREEVEC, 3)"), 2, "");
        Check.fails(Check.start("APTOVEC(MULDIV, 3)"), 3, "");
        // An address is no entry.
        Check.fails(Check.start("APTOVEC(APTOVEC, 3)"), 4, "");
        Check.fails(Check.start("APTOVEC(APTOVEC, 4095)"), 5, "");
        WordTongue x = new WordTongue();
        Check.compile(x, Check.start("APTOVEC(STOP, 0)"));
        Check.due("run to STOP", x.run(9), 6);
        Check.due("STOP's value", x.value(), 103);
        Check.due("no fuel but START's and that of its C", x.fuel(), 7);
    }
}
