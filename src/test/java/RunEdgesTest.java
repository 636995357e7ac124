/** Each edge that the store, frames, forms, fuel and errors of a run have: the last case that goes well, and the first that doesn't (promises 8, 9, 12, 13). */
public final class RunEdgesTest {
    private static final int[] SIZES = {4096, 8192, 16384, 32768, 65536};

    public static void main(String[] args) {
        storesEnds();
        bytesOfTheStore();
        sums();
        relations();
        stores();
        framesEnds();
        whereFramesLie();
        arguments();
        hundredCalls();
        loops();
        valofsAndEnds();
        fuel();
        mostFuel();
        callsErrors();
        Check.end();
    }

    /** "THE STORE has 4096 words (or as many as were told)"; error 2 "a word outside the store is read or written". */
    private static void storesEnds() {
        for (int words : SIZES) {
            int last = words - 1;
            Check.ends(words, Check.start("!" + last + " := 7; WRITEN(!" + last + "); WRITEN(!0); !0 := 8; WRITEN(!0)"), 0, "708");
            for (String place : new String[] {"!" + words, "!(-1)", last + "!1", "1!" + last, "0!(-1)", "!2147483647", "!(-2147483648)", words + "!0"}) {
                Check.ends(words, Check.start("WRITEN(1); WRITEN(" + place + ")"), 2, "1");
                Check.ends(words, Check.start("WRITEN(1); " + place + " := 5; WRITEN(2)"), 2, "1");
                // The place itself is no word that is read.
                Check.ends(words, Check.start("LET x = @" + place + "; WRITEN(1)"), 0, "1");
            }
            for (String place : new String[] {last + "!0", (last - 1) + "!1", words + "!(-1)", "(-1)!" + words, "2147483647!(" + words + " - 2147483647 - 1)"}) {
                Check.ends(words, Check.start(place + " := 5; WRITEN(!" + last + "); WRITEN(" + place + ")"), 0, "55");
            }
            WordTongue x = Check.sized(words, Check.start("!" + last + " := 77"));
            Check.due("run", x.run(100), 0);
            Check.due("the last word", x.word(last), 77);
            Check.due("none behind it", Check.hasWord(x, words), false);
        }
        // A right side that is worked ahead of a place outside puts out what it puts out.
        Check.fails(Check.start("!4096 := VALOF $( WRITEN(1); RESULTIS 2 $)"), 2, "1");
        Check.fails(Check.start("LET a = 1; a, !4096, a := 2, 3, VALOF $( WRITEN(9); RESULTIS 4 $)"), 2, "");
    }

    /** "E1 % E2 the byte E2 of what begins at E1: of the word at E1 and E2 shifted right by 2 (keeping its sign; exactly)". */
    private static void bytesOfTheStore() {
        for (int words : SIZES) {
            int last = words - 1;
            String head = "!" + last + " := #X44332211; !0 := #X88776655; ";
            for (String place : new String[] {last + "%3", (last - 1) + "%7", "0%" + (4 * words - 1), words + "%(-1)", (words + 1) + "%(-5)"}) {
                Check.ends(words, Check.start(head + "WRITEN(" + place + "); " + place + " := #XABC; WRITEHEX(!" + last + ", 8)"), 0, "68BC332211");
            }
            for (String place : new String[] {"0%0", "1%(-4)", "(-1)%4", words + "%(-" + 4 * words + ")", "2%(-8)"}) {
                Check.ends(words, Check.start(head + "WRITEN(" + place + "); (" + place + ") := #XABC; WRITEHEX(!0, 8)"), 0, "85887766BC");
            }
            for (String place : new String[] {last + "%4", words + "%0", "0%" + 4 * words, "0%(-1)", "0%(-4)", "(-1)%3", "(-1)%0", words + "%(-" + (4 * words + 1) + ")", "2147483647%2147483647",
                "2147483647%(-2147483648)", "(-2147483648)%(-2147483648)", "(-2147483648)%2147483647", "1073741824%1", "(-1)%(-1)"}) {
                Check.ends(words, Check.start(head + "WRITEN(1); WRITEN(" + place + ")"), 2, "1");
                Check.ends(words, Check.start(head + "WRITEN(1); " + place + " := 5; WRITEN(2)"), 2, "1");
            }
        }
        // Its eight bits alone are stored, each of the four; in ( ), too.
        for (int i = 0; i < 4; i++) {
            for (int value : new int[] {0, 1, 127, 128, 255, 256, 257, -1, -256, 2147483647, -2147483648}) {
                int due = 0x13579BDF & ~(255 << 8 * i) | (value & 255) << 8 * i;
                String rest = " := " + value + "; WRITEN(v!0); WRCH(32); WRITEN(v%" + i + ")";
                Check.does("LET v = VEC 1; !v := #X13579BDF; v%" + i + rest, due + " " + (value & 255));
                Check.does("LET v = VEC 1; !v := #X13579BDF; (v%" + i + ")" + rest, due + " " + (value & 255));
                Check.does("LET v = VEC 1; !v := #X13579BDF; (((v + 1)%(" + i + " - 4)))" + rest, due + " " + (value & 255));
            }
        }
        Check.does("LET v = VEC 1; !v := -1; (v%1), v%2, ((v!1)) := 0, 0, 5; WRITEHEX(!v, 8); WRITEN(v!1)", "FF0000FF5");
        Check.does("LET v = VEC 1; v!0, v!1 := -1, -1; v%4 := 0; WRITEN(v!0); WRITEHEX(v!1, 8)", "-1FFFFFF00");
    }

    /** "E1 ! E2 the word at their sum (which wraps)". */
    private static void sums() {
        Check.does("!0, !5 := 41, 42; WRITEN(2147483647!(-2147483647)); WRITEN((-2147483648)!(-2147483648)); WRITEN(2147483647!(-2147483642)); WRITEN(5!0); WRITEN(10!(-5))", "4141424242");
        Check.does("(-2147483648)!(-2147483648) := 9; WRITEN(!0); WRITEN((-2147483643)!(-2147483648) = !5)", "9-1");
        Check.fails(Check.start("WRITEN(2147483647!1)"), 2, "");
        Check.fails(Check.start("WRITEN(2147483647!2147483647)"), 2, "");
        Check.fails(Check.start("(-1)!(-1) := 1"), 2, "");
        Check.does("WRITEN(@(2147483647!1)); WRITEN(@(2147483647!2147483647)); WRITEN(@((-2147483648)!(-1)))", "-2147483648-22147483647");
    }

    /** "R: true or false; several: of each two neighbours, from the left, the ones behind a false one not worked". */
    private static void relations() {
        int[] numbers = {-2147483648, -1, 0, 1, 2147483647};
        for (int a : numbers) {
            for (int b : numbers) {
                String due = (a < b ? "-1" : "0") + (a <= b ? "-1" : "0") + (a > b ? "-1" : "0") + (a >= b ? "-1" : "0") + (a == b ? "-1" : "0") + (a != b ? "-1" : "0");
                String k = a + " < (" + b + "), " + a + " <= (" + b + "), " + a + " > (" + b + "), " + a + " >= (" + b + "), " + a + " = (" + b + "), " + a + " ~= (" + b + ")";
                Check.does("LET a, b = " + a + ", " + b + "; WRITEN(a < b); WRITEN(a <= b); WRITEN(a > b); WRITEN(a >= b); WRITEN(a = b); WRITEN(a ~= b)", due);
                Check.does("LET t = TABLE " + k + "; FOR i = 0 TO 5 DO WRITEN(t!i)", due);
            }
        }
        // What an E is on its way with stays there.
        Check.does("WRITEN(5 + (2 < 1 < 3)); WRITEN(5 + (1 < 3 < 2)); WRITEN(5 + (1 < 2 < 3)); WRITEN(9 - (3 > 4 > 1 > 0)); WRITEN(7 * (1 = 1 = 2) + 8)", "55498");
        Check.does("WRITEN(10 + (1 -> 2 < 1 < 3, 4)); WRITEN((2 < 1 < 3) + (1 < 2 < 3)); WRITEN(100 + (2 < 1 < 1 / 0))", "10-1100");
        // What isn't 0 is true.
        for (int a : new int[] {1, -1, 2, 256, 65536, -2147483648, 2147483647}) {
            Check.does("LET a = " + a + "; WRITEN(a -> 1, 2); IF a DO WRITEN(3); UNLESS a DO WRITEN(4); TEST a THEN WRITEN(5) OR WRITEN(6); WHILE a DO $( WRITEN(7); BREAK $); UNTIL a DO WRITEN(8)", "1357");
        }
        Check.does("LET a = 0; WRITEN(a -> 1, 2); IF a DO WRITEN(3); UNLESS a DO WRITEN(4); TEST a THEN WRITEN(5) OR WRITEN(6); WHILE a DO $( WRITEN(7); BREAK $); UNTIL a DO $( WRITEN(8); BREAK $)", "2468");
    }

    /** "the store as at first": whatever the runs before have left there. */
    private static void stores() {
        WordTongue x = new WordTongue();
        String text = "GLOBAL $( G: 9 $); STATIC $( S = 3 $); LET START() BE $( LET v, t = VEC 2, TABLE 5, 6; WRITEN(G + S + !t + v!0 + v!2 + !3000 + !4095 + \"ab\"%1);"
            + " G, S, !t, v!0, v!2, !3000, !4095 := 1, 1, 1, 1, 1, 1, 1; \"ab\"%1 := 1; START := 1; !3999 := 8 $)";
        Check.compile(x, text);
        for (int i = 0; i < 3; i++) {
            Check.due("run " + i, x.run(100), 0);
            Check.due("output " + i, Check.out(x, 0), "105");
            Check.due("a word that was stored to", x.word(3999), 8);
        }
        Check.due("compile", Check.compile(x, "LET START() BE WRITEN(!3000 + !3999 + !4095 + !103 + !9)"), 101);
        Check.due("the store stays till the run", x.word(3999), 8);
        Check.due("run", x.run(100), 0);
        Check.due("output", Check.out(x, 0), "0");
        Check.due("a word that is as at first", x.word(3999), 0);
    }

    /** Error 5: "a frame would end beyond the store, ... (with all the words that its routine may come to use)". */
    private static void framesEnds() {
        for (int words : SIZES) {
            // START's frame begins at 101: two words, the name's, and the vector's.
            int room = Math.min(30000, words - 101 - 4);
            if (room < 30000) {
                Check.ends(words, "LET START() BE $( LET v = VEC " + room + "; v!" + room + " := 3; WRITEN(v!" + room + ") $)", 0, "3");
                Check.ends(words, "LET START() BE $( LET v = VEC " + (room + 1) + "; WRITEN(1) $)", 5, "");
                Check.ends(words, "LET START() BE $( IF FALSE $( LET v = VEC " + (room + 1) + "; WRITEN(1) $); WRITEN(2) $)", 5, "");
                Check.ends(words, "LET START(a) BE $( LET v = VEC " + (room - 1) + "; WRITEN(a) $)", 0, "0");
                Check.ends(words, "LET START(a) BE $( LET v = VEC " + room + "; WRITEN(a) $)", 5, "");
            } else {
                // Frames behind one another: START's 30004 words, and in the larger store another one's.
                int left = words - 102 - 30004 - 4;
                int second = Math.min(30000, left);
                String f = "LET F() BE $( LET w = VEC " + second + "; w!" + second + " := 4; WRITEN(w!" + second + ") $); LET START() BE $( LET v = VEC 30000; F() $)";
                Check.ends(words, f, 0, "4");
                if (second < 30000) {
                    Check.ends(words, f.replace("VEC " + second, "VEC " + (second + 1)), 5, "");
                }
            }
        }
        // The last frame that has room, and the first that has none: F's frames have 3, START's 2 words, from 102 on.
        for (int depth : new int[] {1, 5, 97}) {
            int free = 4096 - 102 - 3 * (depth + 1);
            String text = "LET F(n) = n = 0 -> 7, F(n - 1); LET START() BE $( LET v = VEC # ; WRITEN(F(" + depth + ")) $)";
            Check.prints(text.replace("#", "" + (free - 4)), "7");
            Check.fails(text.replace("#", "" + (free - 3)), 5, "");
        }
    }

    /** "its B is behind the words in use there (arguments, and what an E is on its way with, take none)". */
    private static void whereFramesLie() {
        String f = "LET F(a) = @a - 2; ";
        for (int words : new int[] {0, 1, 27, 28, 29, 30, 31, 32, 61, 62, 63, 100, 1000, 3000}) {
            Check.prints(f + "LET START() BE $( LET v = VEC " + words + "; WRITEN(F(1)); WRITEN(v) $)", (102 + 3 + words + 1) + "105");
            Check.prints(f + "LET START() BE $( $( LET v = VEC " + words + "; WRITEN(v) $); WRITEN(F(1)) $)", "105104");
            Check.prints(f + "LET START() BE $( LET x = 5; LET y = VALOF $( LET v = VEC " + words + "; RESULTIS F(v) $); WRITEN(y); WRCH(32); WRITEN(F(1)) $)", (102 + 3 + 1 + words + 1) + " 106");
        }
        Check.prints(f + "LET START(p, q) BE $( WRITEN(1 + F(1) * 1); WRITEN(START -> F(1, F(2)), 0); WRITEN(F(F(F(1)))) $)", "107106106");
        Check.prints(f + "LET START() BE $( LET x, y = F(1), F(1); LET z = F(1); WRITEN(x); WRITEN(y); WRITEN(z) $)", "104104106");
        Check.prints(f + "LET START() BE $( FOR i = F(1) TO F(1) DO WRITEN(F(1)); WRITEN(F(1)) $)", "106104");
        Check.prints("LET F(n) = n = 0 -> @n - 2, F(n - 1); LET START() BE $( WRITEN(F(0)); WRITEN(F(1)); WRITEN(F(10)) $)", "104107134");
        // "START is called with B where the stack begins, the caller's B 0".
        WordTongue x = new WordTongue();
        Check.compile(x, "STATIC $( A = 1; B = 2 $); LET F(a, b) BE RETURN; LET START() BE $( LET u = 5; F(6, 7) $)");
        Check.due("run", x.run(10), 0);
        int[] due = {0, 1000001, 5, 104, 1000000, 6, 7, 0};
        for (int i = 0; i < due.length; i++) {
            Check.due("word of the stack " + i, x.word(104 + i), due[i]);
        }
    }

    /** "parameters without an argument are 0, arguments too many nothing". */
    private static void arguments() {
        // What lay there before counts for nothing.
        Check.prints("LET G() BE $( LET v = VEC 9; FOR i = 0 TO 9 DO v!i := 5 $); LET F(a, b, c) = a * 100 + b * 10 + c; LET START() BE $( G(); WRITEN(F()); G(); WRITEN(F(1)); G(); WRITEN(F(1, 2)); G(); WRITEN(F(1, 2, 3)); WRITEN(F(1, 2, 3, 4)) $)",
            "0100120123123");
        Check.prints("LET G() BE $( LET v = VEC 9; FOR i = 0 TO 9 DO v!i := 5 $); LET F() BE $( LET v = VEC 3; WRITEN(v!0); WRITEN(v!3) $); LET START() BE $( G(); F(1, 2, 3, 4, 5) $)", "55");
        Check.prints("LET START(a, b) BE $( WRITEN(a); WRITEN(b) $)", "00");
        Check.does("WRITEN(7, 8); WRITED(7); WRITEN(MULDIV(6, 4, 3, 2)); WRITEN(ABS(-3, 4)); WRITEN(ABS())", "77830");
    }

    /** "At most 100 are under way (else error 5)". */
    private static void hundredCalls() {
        String f = "LET F(n) = n = 0 -> 0, 1 + F(n - 1); ";
        Check.prints(f + "LET START() BE WRITEN(F(98))", "98");
        Check.fails(f + "LET START() BE WRITEN(F(99))", 5, "");
        Check.prints(f + "LET START() BE FOR i = 1 TO 50 DO F(98)", "");
        Check.prints(f + "LET G(n) = F(n); LET START() BE WRITEN(G(97))", "97");
        Check.fails(f + "LET G(n) = F(n); LET START() BE WRITEN(G(98))", 5, "");
        Check.prints("LET F(n) = n = 0 -> ABS(-5), F(n - 1); LET START() BE WRITEN(F(98))", "5");
        Check.prints("LET F(n) BE $( WRCH('a' + n REM 26); IF n > 0 DO F(n - 1) $); LET START() BE F(2)", "cba");
        Check.prints("LET F(v, n) = n = 0 -> 0, 1 + APTOVEC(F, n - 1); LET START() BE WRITEN(F(0, 60))", "60");
        Check.fails("LET START() BE START()", 5, "");
        WordTongue x = new WordTongue();
        Check.compile(x, "LET START() BE START()");
        Check.due("run with 199", x.run(199), 1);
        Check.due("run with 200", x.run(200), 1);
        Check.due("run with 201", x.run(201), 5);
        Check.due("fuel of each C and each call, and of the 101st", x.fuel(), 0);
    }

    /** "while N is not beyond the end (above it, below it for K below 0; K 1 if not told); N and K added (which wraps)". */
    private static void loops() {
        String[][] rows = {
            {"1 TO 3", "123"}, {"3 TO 3", "3"}, {"4 TO 3", ""}, {"1 TO 3 BY 1", "123"}, {"1 TO 3 BY 2", "13"}, {"1 TO 4 BY 2", "13"}, {"1 TO 2 BY 2", "1"}, {"1 TO 1 BY 5", "1"},
            {"3 TO 1 BY -1", "321"}, {"3 TO 3 BY -1", "3"}, {"3 TO 4 BY -1", ""}, {"5 TO 2 BY -2", "53"}, {"5 TO 1 BY -2", "531"}, {"-1 TO 1", "-101"}, {"4 TO 3 BY 0", ""},
            {"0 TO -1", ""}, {"0 TO 0 BY 2147483647", "0"}, {"0 TO 0 BY -2147483648", "0"}, {"1 TO 0 BY -2147483648", "1"}};
        for (String[] row : rows) {
            Check.does("FOR i = " + row[0] + " DO WRITEN(i)", row[1]);
        }
        // At the numbers' ends it wraps: the end is never passed.
        Check.does("LET n = 0; FOR i = 2147483646 TO 2147483647 DO $( n := n + 1; WRITEN(i); WRCH(32); IF n = 4 BREAK $)", "2147483646 2147483647 -2147483648 -2147483647 ");
        Check.does("LET n = 0; FOR i = -2147483647 TO -2147483648 BY -1 DO $( n := n + 1; WRITEN(i); WRCH(32); IF n = 3 BREAK $)", "-2147483647 -2147483648 2147483647 ");
        Check.does("FOR i = 2147483646 TO 2147483646 DO WRITEN(i)", "2147483646");
        Check.does("FOR i = -2147483647 TO -2147483647 BY -1 DO WRITEN(i)", "-2147483647");
        Check.does("LET n = 0; FOR i = 2147483647 TO 2147483647 BY 2147483647 DO $( n := n + 1; WRITEN(i); WRCH(32); IF n = 3 BREAK $)", "2147483647 -2 2147483645 ");
        Check.does("LET n = 0; FOR i = 5 TO 5 BY 0 DO $( n := n + 1; IF n = 4 BREAK; WRITEN(i) $)", "555");
        // An empty round, none, and one.
        Check.does("LET n = 0; WHILE n < 0 DO WRITEN(1); UNTIL n = 0 DO WRITEN(2); WRITEN(3) REPEATWHILE n; WRITEN(4) REPEATUNTIL n = 0; WHILE n < 1 DO n := n + 1; WRITEN(n)", "341");
        Check.does("SWITCHON 0 INTO $( $); SWITCHON 0 INTO $( CASE 1: WRITEN(1) $); SWITCHON 0 INTO $( DEFAULT: $); SWITCHON 0 INTO $( WRITEN(2) $); WRITEN(3)", "3");
    }

    /** "VALOF C: what RESULTIS tells, 0 if none does"; "RETURN leaves the routine (its value 0; so has one that comes to the end of its BE)"; "FINISH ends the run". */
    private static void valofsAndEnds() {
        Check.does("WRITEN(9 + VALOF $( ; $)); WRITEN(9 + VALOF $( $)); WRITEN(9 + VALOF IF FALSE RESULTIS 5); WRITEN(9 + VALOF RESULTIS 5); WRITEN(9 + VALOF WRITEN(1))", "9991419");
        Check.prints("LET F() BE $( ; $) AND G() BE $( $) AND H() BE WRITEN(5) AND I() BE RETURN AND J() BE IF TRUE RETURN; LET START() BE $( WRITEN(3 + F()); WRITEN(3 + G()); WRITEN(3 + H()); WRITEN(3 + I()); WRITEN(3 + J()) $)", "335333");
        Check.prints("LET F(n) BE n := 7; LET START() BE $( WRITEN(F(1)); WRITEN(1 - F(2) - F(3)) $)", "01");
        String[][] rows = {{"LET START() BE ;", "0", "0"}, {"LET START() BE $( LET x = 5; x := 6 $)", "0", "0"}, {"LET START() BE RETURN", "0", "0"}, {"LET START() = 5", "0", "5"},
            {"LET START() = VALOF $( $)", "0", "0"}, {"LET START() = VALOF RESULTIS -2147483648", "0", "-2147483648"}, {"LET START() BE FINISH", "0", "0"}, {"LET START() = 5 + VALOF FINISH", "0", "0"},
            {"LET START() BE STOP(7)", "6", "7"}, {"LET START() = 5 + STOP()", "6", "0"}, {"LET START() BE STOP(-2147483648)", "6", "-2147483648"}, {"LET F() BE STOP(3); LET START() = 1 + F()", "6", "3"},
            {"LET F() BE FINISH; LET START() = 1 + F()", "0", "0"}, {"LET START() = 5 / 0", "3", "0"}, {"LET START() = !(-1)", "2", "0"}, {"LET START() = 7()", "4", "0"}, {"LET START() = START()", "5", "0"}};
        WordTongue x = new WordTongue();
        for (String[] row : rows) {
            Check.due("compile of <" + row[0] + ">", Check.compile(x, row[0]) > 0, true);
            Check.due("run of <" + row[0] + ">", x.run(1000), Integer.parseInt(row[1]));
            Check.due("value of <" + row[0] + ">", x.value(), Integer.parseInt(row[2]));
        }
    }

    private static void takes(String commands, int fuel) {
        Check.takes(Check.start(commands), fuel + 1);
    }

    /** "FUEL: 1 for each C that begins (not blocks, nothing, CASE, DEFAULT; of REPEATs the C within) ...": just enough, and one too little. */
    private static void fuel() {
        String[][] rows = {{"", "0"}, {";;;", "0"}, {"$( $); $( ; $( $) $)", "0"}, {"LET x = 1", "1"}, {"LET v = VEC 5", "1"}, {"LET x, y = 1, 2", "1"}, {"STATIC $( S = 1 $)", "0"}, {"LET f() = 1", "0"},
            {"LET x = 1; x := 2", "2"}, {"LET x, y = 1, 2; x, y := y, x", "2"}, {"WRITEN(1)", "1"}, {"START := 1", "1"}, {"L: M: ;", "0"}, {"L: WRITEN(1)", "1"}, {"GOTO L; L:", "1"},
            {"IF 0 DO ;", "1"}, {"IF 1 DO ;", "1"}, {"IF 1 DO $( $)", "1"}, {"IF 1 DO IF 1 DO WRITEN(1)", "3"}, {"UNLESS 1 DO FINISH", "1"}, {"TEST 1 THEN ABS(1) OR FINISH", "2"}, {"TEST 0 THEN FINISH OR $( $)", "1"},
            {"RETURN", "1"}, {"FINISH", "1"}, {"WRITEN(VALOF RESULTIS 1)", "2"}, {"WRITEN(VALOF $( $))", "1"},
            {"WHILE 0 DO FINISH", "2"}, {"UNTIL 1 DO FINISH", "2"}, {"WHILE 1 DO BREAK", "3"}, {"LET n = 2; WHILE n DO n := n - 1", "7"}, {"LET n = 2; UNTIL n = 0 DO $( n := n - 1; LOOP $)", "9"},
            {"ABS(1) REPEATWHILE 0", "2"}, {"ABS(1) REPEATUNTIL 1", "2"}, {"$( $) REPEATWHILE 0", "1"}, {"BREAK REPEAT", "1"}, {"ABS(1) REPEATWHILE 0 REPEATUNTIL 1", "3"},
            {"LET n = 2; $( n := n - 1; IF n = 0 BREAK $) REPEAT", "7"}, {"LET n = 2; $( n := n - 1; TEST n = 0 THEN BREAK OR LOOP $) REPEAT", "8"}, {"LET n = 2; n := n - 1 REPEATWHILE n", "5"},
            {"FOR i = 1 TO 0 DO FINISH", "2"}, {"FOR i = 1 TO 1 DO ;", "3"}, {"FOR i = 1 TO 2 DO $( $)", "4"}, {"FOR i = 1 TO 2 DO ABS(i)", "6"}, {"FOR i = 1 TO 2 DO LOOP", "6"}, {"FOR i = 1 TO 2 DO BREAK", "3"},
            {"SWITCHON 1 INTO $( $)", "1"}, {"SWITCHON 1 INTO $( CASE 1: $)", "1"}, {"SWITCHON 1 INTO $( CASE 1: CASE 2: DEFAULT: ENDCASE $)", "2"}, {"SWITCHON 1 INTO $( DEFAULT: ABS(1); ABS(2) $)", "3"},
            {"LET f() = 1; ABS(f())", "2"}, {"LET f() BE ; f()", "2"}, {"LET f() BE RETURN; f()", "3"}, {"LET f() = 1; ABS(f() + f())", "3"}, {"LET f(v, n) = 1; APTOVEC(f, 0)", "2"}, {"APTOVEC(ABS, 0)", "1"}};
        for (String[] row : rows) {
            takes(row[0], Integer.parseInt(row[1]));
        }
        Check.takes("LET START() = 1", 1);
        Check.takes("LET START() BE ;", 1);
        Check.takes("LET START() BE WRITEN(1)", 2);
    }

    /** "with so much fuel (0 .. 100000)": the largest fuel that can be told, taken to its end, and not quite. */
    private static void mostFuel() {
        WordTongue x = new WordTongue();
        // START, FOR, and an asking more than there are rounds.
        Check.compile(x, "LET START() BE FOR i = 1 TO 99997 DO ;");
        Check.due("run of 100000", x.run(100000), 0);
        Check.due("all is taken", x.fuel(), 0);
        Check.due("run of 99999", x.run(99999), 1);
        Check.due("run of 100001", x.run(100001), -1);
        Check.due("run of MAX", x.run(2147483647), -1);
        Check.due("run of MIN", x.run(-2147483648), -1);
        Check.due("nothing is changed", x.fuel(), 0);
        Check.compile(x, "LET START() BE FOR i = 1 TO 99998 DO ;");
        Check.due("run of 100000", x.run(100000), 1);
        Check.compile(x, "LET START() BE FOR i = 1 TO 99996 DO ;");
        Check.due("run of 100000", x.run(100000), 0);
        Check.due("one is left", x.fuel(), 1);
        Check.due("run of 0", x.run(0), 1);
        Check.due("none is left", x.fuel(), 0);
        Check.due("START had no frame", x.word(102), 0);
        Check.due("run of 1", x.run(1), 1);
        Check.due("START had one", x.word(102), 1000000);
    }

    /** "(Of a call: 4, 1, 5.)"; "1 for each routine entered (also when 5 refuses its frame)". */
    private static void callsErrors() {
        WordTongue x = new WordTongue();
        Check.compile(x, "LET F() BE $( LET v = VEC 5000; FINISH $); LET START() = F()");
        Check.due("neither fuel nor room", x.run(1), 1);
        Check.due("no room", x.run(2), 5);
        Check.due("and yet it is taken", x.fuel(), 0);
        Check.compile(x, "LET START() = (3)()");
        Check.due("neither an entry nor fuel", x.run(1), 4);
        Check.compile(x, "LET START() = APTOVEC(3, -1)");
        Check.due("neither an entry nor a number", x.run(1), 4);
        Check.compile(x, "LET F() = 1; LET START() = APTOVEC(F, -1)");
        Check.due("neither a number nor fuel", x.run(1), 2);
        Check.compile(x, "LET F() = 1; LET START() = APTOVEC(F, 4095)");
        Check.due("neither fuel nor room", x.run(1), 1);
        Check.due("no room", x.run(2), 5);
        // Arguments are worked ahead of it all, then the routine's value.
        Check.fails("LET START() = (VALOF $( WRITEN(2); RESULTIS 3 $))(VALOF $( WRITEN(1); RESULTIS 1 $))", 4, "12");
        Check.fails("LET F(n) BE $( LET v = VEC 5000; FINISH $); LET START() = F(VALOF $( WRITEN(1); RESULTIS 1 $))", 5, "1");
        Check.fails("LET START() = (1 / 0)(WRITEN(1))", 3, "1");
    }
}
