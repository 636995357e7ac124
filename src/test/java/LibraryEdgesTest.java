/** Each edge that LIBRARY and OUTPUTS name: the last case that goes well, and the first that doesn't (promises 7, 8, 10, 11). */
public final class LibraryEdgesTest {
    public static void main(String[] args) {
        numbersOut();
        widths();
        hexDigits();
        strings();
        bytesOut();
        fullOutputs();
        inputsEnds();
        numbersIn();
        choosing();
        reckoning();
        hundredVectors();
        vectorsRoom();
        vectorsAndFrames();
        freeing();
        applying();
        applyingLibrary();
        Check.end();
    }

    /** "WRITEN(n) in decimal". */
    private static void numbersOut() {
        long power = 1;
        for (int i = 0; i < 10; i++) {
            for (long n : new long[] {power - 1, power, power + 1, 2 * power, 9 * power}) {
                if (n <= 2147483647L) {
                    Check.does("WRITEN(" + n + "); WRCH(32); WRITEN(-" + n + ")", n + " " + -n);
                }
            }
            power *= 10;
        }
        Check.does("WRITEN(2147483647); WRITEN(-2147483647); WRITEN(-2147483648); WRITEN(2147483648)", "2147483647-2147483647-2147483648-2147483648");
        Check.does("WRITEN(1234567890); WRITEN(-1987654320); WRITEN()", "1234567890-19876543200");
    }

    private static String padded(int n, int width) {
        String digits = "" + n;
        return Check.times(" ", Math.min(Math.max(width, 0), 100) - digits.length()) + digits;
    }

    /** "WRITED(n, w) with blanks ahead to w places (at most 100; below 0: none)". */
    private static void widths() {
        for (int n : new int[] {0, 5, -5, 10, -10, 12345, 2147483647, -2147483648}) {
            int length = ("" + n).length();
            for (int w : new int[] {-2147483648, -100, -1, 0, 1, length - 1, length, length + 1, 99, 100, 101, 102, 1000, 2147483647}) {
                Check.does("WRITED(" + n + ", " + w + "); WRCH('.')", padded(n, w) + ".");
            }
        }
        Check.does("WRITED(7); WRITED(); WRITED(7, 3, 9)", "70  7");
    }

    /** "WRITEHEX(n, d) its last d digits (1 .. 8, the nearest; 0 .. 9, A .. F)". */
    private static void hexDigits() {
        for (int n : new int[] {0, 0x01234567, 0x89ABCDEF, -1, -2147483648, 2147483647, 0x90A0F000}) {
            String all = String.format("%08X", n);
            for (int d : new int[] {-2147483648, -1, 0, 1, 2, 3, 4, 5, 6, 7, 8, 9, 10, 2147483647}) {
                int count = Math.max(1, Math.min(8, d));
                Check.does("WRITEHEX(" + n + ", " + d + "); WRCH('.')", all.substring(8 - count) + ".");
            }
        }
        Check.does("FOR i = 0 TO 16 DO WRITEHEX(i, 1); WRITEHEX(); WRITEHEX(31)", "0123456789ABCDEF00F");
    }

    /** "WRITES(s) the bytes of a packed string (all its words must be in the store, else error 2, and none is put out)". */
    private static void strings() {
        for (int words : new int[] {4096, 8192, 65536}) {
            int last = words - 1;
            for (int count = 0; count <= 3; count++) {
                Check.ends(words, Check.start("!" + last + " := #X43424100 + " + count + "; WRITES(" + last + ")"), 0, "ABC".substring(0, count));
            }
            for (int count : new int[] {4, 5, 7, 8, 255}) {
                Check.ends(words, Check.start("!" + last + " := #X43424100 + " + count + "; WRCH('.'); WRITES(" + last + ")"), 2, ".");
            }
            Check.ends(words, Check.start("!" + (last - 1) + ", !" + last + " := #X43424107, #X47464544; WRITES(" + (last - 1) + ")"), 0, "ABCDEFG");
            Check.ends(words, Check.start("!" + (last - 1) + ", !" + last + " := #X43424108, #X47464544; WRITES(" + (last - 1) + ")"), 2, "");
            Check.ends(words, Check.start("!" + (words - 64) + " := 255; WRITES(" + (words - 64) + ")"), 0, Check.times("\0", 255));
            Check.ends(words, Check.start("!" + (words - 63) + " := 255; WRITES(" + (words - 63) + ")"), 2, "");
            Check.ends(words, Check.start("WRITES(" + words + ")"), 2, "");
        }
        for (int none : new int[] {-1, 4096, 2147483647, -2147483648}) {
            Check.fails(Check.start("WRITES(" + none + ")"), 2, "");
        }
        Check.does("WRITES(0); WRITES(); WRITES(\"\"); WRITES(\"x\")", "x");
        // The lowest eight bits tell how many.
        Check.does("LET v = VEC 1; !v := #X44434202; WRITES(v)", "BC");
        Check.does("LET v = VEC 64; FOR i = 0 TO 63 DO v!i := #X41414141; v%0 := 255; WRITES(v); v%0 := 0; WRITES(v)", Check.times("A", 255));
    }

    /** "WRCH(c) its lowest 8 bits". */
    private static void bytesOut() {
        int[] numbers = {0, 1, 127, 128, 255, 256, 257, -1, -128, -256, -257, 2147483647, -2147483648};
        StringBuilder commands = new StringBuilder("NEWLINE()");
        StringBuilder due = new StringBuilder("\n");
        for (int n : numbers) {
            commands.append("; WRCH(").append(n).append(")");
            due.append((char) (n & 255));
        }
        Check.does(commands.toString(), due.toString());
        Check.does("WRCH(); NEWLINE(5); WRCH('a', 'b')", "\0\na");
    }

    /** "OUTPUTS: 4096 bytes each, what comes behind is lost". */
    private static void fullOutputs() {
        String[][] rows = {{"WRCH('x')", "x"}, {"NEWLINE()", "\n"}, {"WRITES(\"abcde\")", "abcde"}, {"WRITEN(-1234)", "-1234"}, {"WRITED(56, 4)", "  56"}, {"WRITEHEX(#XABCD, 4)", "ABCD"}};
        for (int k = 0; k <= 1; k++) {
            for (int count : new int[] {4090, 4092, 4093, 4094, 4095, 4096, 4097, 5000}) {
                for (String[] row : rows) {
                    WordTongue x = new WordTongue();
                    Check.compile(x, Check.start("SELECTOUTPUT(" + k + "); FOR i = 1 TO " + count + " DO WRCH('.'); " + row[0] + "; SELECTOUTPUT(" + (1 - k) + "); WRCH('!')"));
                    Check.due("run", x.run(100000), 0);
                    int length = Math.min(4096, count + row[1].length());
                    Check.due("out(" + k + ") of " + count + " and " + row[0], x.out(k), length);
                    Check.due("the last one", Check.hasOut(x, k, length - 1), true);
                    Check.due("none behind", Check.hasOut(x, k, length), false);
                    Check.due("what is kept", Check.lastOut(x, k, 12), (Check.times(".", count) + row[1]).substring(length - 12, length));
                    Check.due("the other output", Check.out(x, 1 - k), "!");
                }
            }
        }
        // It is empty in the next run.
        WordTongue x = new WordTongue();
        Check.compile(x, Check.start("FOR i = 1 TO 4097 DO WRCH('.')"));
        for (int i = 0; i < 3; i++) {
            Check.due("run", x.run(100000), 0);
            Check.due("full", x.out(0), 4096);
            Check.due("not used", x.out(1), 0);
        }
        Check.due("run without fuel", x.run(0), 1);
        Check.due("empty", x.out(0), 0);
        Check.due("no byte", Check.hasOut(x, 0, 0), false);
    }

    private static String reads(String input, String commands) {
        WordTongue x = new WordTongue();
        Check.input(x, 0, input);
        Check.compile(x, Check.start(commands));
        Check.due("run of <" + commands + ">", x.run(100000), 0);
        return Check.out(x, 0);
    }

    /** "RDCH() the next byte of the input at hand, -1 at its end; UNRDCH() one byte back (behind a -1 the last byte): TRUE, FALSE at its beginning; REWIND()". */
    private static void inputsEnds() {
        Check.due("an empty input", reads("", "WRITEN(RDCH()); WRITEN(RDCH()); WRITEN(UNRDCH()); WRITEN(REWIND()); WRITEN(RDCH())"), "-1-100-1");
        Check.due("one byte", reads("A", "WRITEN(UNRDCH()); WRITEN(RDCH()); WRITEN(RDCH()); WRITEN(RDCH()); WRITEN(UNRDCH()); WRITEN(RDCH()); WRITEN(UNRDCH()); WRITEN(UNRDCH()); WRITEN(RDCH()); WRITEN(RDCH())"), "065-1-1-165-1065-1");
        Check.due("back to the beginning", reads("AB", "RDCH(); RDCH(); WRITEN(UNRDCH()); WRITEN(UNRDCH()); WRITEN(UNRDCH()); WRCH(RDCH()); WRCH(RDCH()); WRITEN(RDCH())"), "-1-10AB-1");
        Check.due("rewound", reads("AB", "RDCH(); RDCH(); RDCH(); REWIND(); WRITEN(UNRDCH()); WRCH(RDCH()); REWIND(); WRCH(RDCH())"), "0AA");
        StringBuilder all = new StringBuilder();
        for (int i = 0; i < 256; i++) {
            all.append((char) i);
        }
        Check.due("all bytes", reads(all.toString(), "LET n = 0; LET c = RDCH(); WHILE c = n DO $( n := n + 1; c := RDCH() $); WRITEN(n); WRITEN(c)"), "256-1");
        Check.due("the longest input", reads(Check.times("x", 5999) + "y", "LET n = 0; LET c = 'x'; WHILE c = 'x' DO $( n := n + 1; c := RDCH() $); WRITEN(n); WRCH(c); WRITEN(RDCH()); WRITEN(UNRDCH()); WRCH(RDCH())"), "6000y-1-1y");
        // Where the inputs are stays from run to run; REWIND moves that at hand alone.
        WordTongue x = new WordTongue();
        Check.due("input 0", Check.input(x, 0, "abc"), 3);
        Check.due("input 1", Check.input(x, 1, "de"), 2);
        Check.compile(x, Check.start("WRCH(RDCH()); SELECTINPUT(1); WRCH(RDCH()); IF RDCH() < 0 DO REWIND()"));
        String[] dues = {"ad", "b\u00ff", "cd", "\u00ff\u00ff"};
        for (String due : dues) {
            Check.due("run", x.run(100), 0);
            Check.due("bytes", Check.out(x, 0), due);
        }
        Check.due("input 0 anew", Check.input(x, 0, ""), 0);
        Check.due("run", x.run(100), 0);
        Check.due("bytes", Check.out(x, 0), "\u00ffd");
    }

    /** "READN() passes over bytes 32, 9, 10, 13, then - or + or nothing, then digits: the number (it wraps; 0 without digits)". */
    private static void numbersIn() {
        String[][] rows = {{"0", "0"}, {"9", "9"}, {"10", "10"}, {"100", "100"}, {"1050", "1050"}, {"007", "7"}, {"-0", "0"}, {"+0", "0"}, {"-10", "-10"}, {"+90", "90"}, {"2147483647", "2147483647"}, {"2147483648", "-2147483648"},
            {"-2147483648", "-2147483648"}, {"-2147483649", "2147483647"}, {"4294967295", "-1"}, {"4294967296", "0"}, {"4294967297", "1"}, {"10000000000000000000000", "-1304428544"}, {"", "0"}, {"-", "0"}, {"+", "0"}};
        for (String[] row : rows) {
            for (String ahead : new String[] {"", " ", "\t", "\n", "\r", " \t\n\r \r\n\t "}) {
                Check.due("number <" + row[0] + ">", reads(ahead + row[0], "WRITEN(READN()); WRITEN(RDCH())"), row[1] + "-1");
                for (String behind : new String[] {"x", ":", "/", ".", "\0", "\u00b2"}) {
                    Check.due("number <" + row[0] + "> and <" + behind + ">", reads(ahead + row[0] + behind, "WRITEN(READN()); WRCH(RDCH()); WRITEN(RDCH())"), row[1] + behind + "-1");
                }
            }
        }
        // A byte that is none of these is not passed; a sign is, once.
        for (int b = 0; b < 256; b++) {
            boolean isBlank = b == 32 || b == 9 || b == 10 || b == 13;
            boolean isDigit = b >= '0' && b <= '9';
            boolean isSign = b == '-' || b == '+';
            int two = isDigit ? (b - '0') * 10 + 7 : 7;
            String due = isDigit || isBlank || b == '+' ? two + "-1" : b == '-' ? "-7-1" : "0" + b;
            Check.due("byte " + b + " ahead", reads((char) b + "7", "WRITEN(READN()); WRITEN(RDCH())"), due);
            if (isSign || isBlank) {
                Check.due("a sign and byte " + b, reads("-" + (char) b + "7", "WRITEN(READN()); WRITEN(RDCH())"), "0" + b);
            }
        }
        Check.due("at the end", reads("5", "WRITEN(READN()); WRITEN(READN()); WRITEN(READN()); WRITEN(UNRDCH()); WRITEN(READN())"), "500-15");
        Check.due("blanks to the end", reads("5 \n", "WRITEN(READN()); WRITEN(READN()); WRITEN(UNRDCH()); WRITEN(RDCH())"), "50-110");
    }

    /** "SELECTINPUT(k) 0 .. 3, SELECTOUTPUT(k) 0, 1: those are at hand (0 at first): TRUE, else FALSE". */
    private static void choosing() {
        for (int k : new int[] {-2147483648, -1, 0, 1, 2, 3, 4, 5, 2147483647}) {
            WordTongue x = new WordTongue();
            for (int i = 0; i < 4; i++) {
                Check.input(x, i, "abcd".substring(i, i + 1));
            }
            Check.compile(x, Check.start("SELECTINPUT(2); WRITEN(SELECTINPUT(" + k + ")); WRCH(RDCH())"));
            x.run(100);
            Check.due("input " + k, Check.out(x, 0), k >= 0 && k <= 3 ? "-1" + (char) ('a' + k) : "0c");
            Check.compile(x, Check.start("LET t = 0; SELECTOUTPUT(1); t := SELECTOUTPUT(" + k + "); WRCH('x'); SELECTOUTPUT(0); WRITEN(t)"));
            x.run(100);
            Check.due("output " + k, Check.out(x, 0), k == 0 ? "x-1" : k == 1 ? "-1" : "0");
            Check.due("the other output " + k, Check.out(x, 1), k == 0 ? "" : "x");
        }
    }

    /** "ABS(n); MULDIV(a, b, c) a times b by c, reckoned exactly, towards 0 (its lowest 32 bits; c 0: error 3)". */
    private static void reckoning() {
        int[] numbers = {-2147483648, -2147483647, -65536, -7, -1, 0, 1, 2, 7, 65536, 2147483647};
        for (int a : numbers) {
            Check.does("WRITEN(ABS(" + a + "))", "" + (a < 0 ? -a : a));
            for (int b : numbers) {
                StringBuilder commands = new StringBuilder("WRCH(32)");
                StringBuilder due = new StringBuilder(" ");
                for (int c : numbers) {
                    if (c != 0) {
                        commands.append("; WRITEN(MULDIV(").append(a).append(", ").append(b).append(", ").append(c).append("))");
                        due.append((int) ((long) a * b / c));
                    }
                }
                Check.does(commands.toString(), due.toString());
                Check.fails(Check.start("WRITEN(1); MULDIV(" + a + ", " + b + ", 0)"), 3, "1");
            }
        }
        Check.fails(Check.start("MULDIV(1, 1)"), 3, "");
        Check.fails(Check.start("MULDIV()"), 3, "");
        Check.fails(Check.start("STOP(MULDIV(1, 1, 0))"), 3, "");
    }

    /** "0 when ... 100 are got and not freed". */
    private static void hundredVectors() {
        Check.does("LET n = 0; WHILE GETVEC(0) DO n := n + 1; WRITEN(n); WRCH(32); WRITEN(GETVEC(0)); WRITEN(GETVEC(5)); FREEVEC(4095); WRITEN(GETVEC(1)); WRITEN(GETVEC(0)); WRCH(32); WRITEN(GETVEC(0))", "100 0039940 0");
        Check.does("LET v = 0; FOR i = 1 TO 99 DO v := GETVEC(2); WRITEN(v); WRCH(32); WRITEN(GETVEC(2)); WRCH(32); WRITEN(GETVEC(2)); FREEVEC(v); WRITEN(GETVEC(2) = v); WRITEN(GETVEC(2))", "3799 3796 0-10");
        Check.does("FOR i = 1 TO 100 DO GETVEC(0); FOR i = 4095 TO 3996 BY -1 DO FREEVEC(i); FOR i = 1 TO 99 DO GETVEC(0); WRITEN(GETVEC(0)); WRITEN(GETVEC(0))", "39960");
        // Got and freed again and again: only those not freed count.
        Check.does("LET v = 0; FOR i = 1 TO 300 DO $( v := GETVEC(3); FREEVEC(v) $); WRITEN(v); WRITEN(GETVEC(0))", "40924095");
        WordTongue x = new WordTongue();
        Check.compile(x, Check.start("FOR i = 1 TO 100 DO GETVEC(0); WRITEN(GETVEC(0))"));
        for (int i = 0; i < 3; i++) {
            Check.due("run", x.run(1000), 0);
            Check.due("the 101st in each run", Check.out(x, 0), "0");
        }
        Check.compile(x, Check.start("FOR i = 1 TO 99 DO GETVEC(0); WRITEN(GETVEC(0))"));
        Check.due("run", x.run(1000), 0);
        Check.due("the 100th", Check.out(x, 0), "3996");
    }

    /** "n + 1 words, as they lie there, got as high as they are free: below the store's end, beside vectors that were got ..., not below the end of the frame". */
    private static void vectorsRoom() {
        for (int words : new int[] {4096, 8192, 16384, 32768, 65536}) {
            // START's frame ends at 101 + 2.
            Check.ends(words, Check.start("WRITEN(GETVEC(" + (words - 103 - 1) + "))"), 0, "103");
            Check.ends(words, Check.start("WRITEN(GETVEC(" + (words - 103) + "))"), 0, "0");
            Check.ends(words, Check.start("WRITEN(GETVEC(0)); WRITEN(GETVEC(" + (words - 104 - 1) + "))"), 0, (words - 1) + "103");
            Check.ends(words, Check.start("WRITEN(GETVEC(0)); WRITEN(GETVEC(" + (words - 104) + "))"), 0, (words - 1) + "0");
            for (int n : new int[] {-1, -2, -2147483648, words - 1, words, words + 1, 2147483647}) {
                Check.ends(words, Check.start("WRITEN(GETVEC(" + n + "))"), 0, "0");
            }
            Check.ends(words, Check.start("LET v = GETVEC(0); !v := 7; WRITEN(v); WRITEN(!" + (words - 1) + ")"), 0, (words - 1) + "7");
        }
        // A gap that is just large enough, and one that is a word too small.
        String gap = "LET a, b, c = GETVEC(9), GETVEC(4), GETVEC(0); FREEVEC(b); ";
        Check.does(gap + "WRITEN(GETVEC(4) = b); WRITEN(GETVEC(0) = c - 1)", "-1-1");
        Check.does(gap + "WRITEN(GETVEC(5) = c - 6); WRITEN(GETVEC(4) = b)", "-1-1");
        Check.does(gap + "WRITEN(GETVEC(3) = b + 1); WRITEN(GETVEC(0) = b); WRITEN(GETVEC(0) = c - 1)", "-1-1-1");
        Check.does("LET a, b, c, d = GETVEC(0), GETVEC(1), GETVEC(2), GETVEC(3); FREEVEC(a); FREEVEC(c); WRITEN(GETVEC(2) = c); WRITEN(GETVEC(0) = a); WRITEN(GETVEC(0) = d - 1)", "-1-1-1");
        // In the lowest gap, above the frame: START's ends at 106, and the words from there on are free.
        Check.does("LET a, b, c = GETVEC(3900), 0, 0; WRITEN(a); b := GETVEC(a - 106 - 1); WRITEN(b); c := GETVEC(0); WRITEN(c)", "1951060");
        Check.does("LET a, b, c = GETVEC(3900), 0, 0; b := GETVEC(a - 106); WRITEN(b); c := GETVEC(a - 107); WRITEN(c)", "0106");
        Check.does("!4095, !4094 := 7, 8; WRITEN(GETVEC(1)!0); WRITEN(!4095); FREEVEC(4094); WRITEN(GETVEC(0)!0)", "877");
    }

    /** "Frames may not go on beyond the lowest of them". */
    private static void vectorsAndFrames() {
        // START's frame: 102 .. 104, with x; F's: 105 .. 107.
        String f = "LET F(a) = a + 1; LET START() BE $( LET x = GETVEC(#); ";
        Check.prints(f.replace("#", "" + (4095 - 108)) + "WRITEN(x); WRITEN(F(1)) $)", "1082");
        Check.fails(f.replace("#", "" + (4095 - 107)) + "WRITEN(x); WRITEN(F(1)) $)", 5, "107");
        Check.prints(f.replace("#", "" + (4095 - 107)) + "FREEVEC(x); WRITEN(F(1)) $)", "2");
        // The lowest counts, though it was not the last one got; and though there is room above it.
        Check.fails("LET F(a) = a + 1; LET START() BE $( LET x, y = GETVEC(2), GETVEC(3984); FREEVEC(x); WRITEN(y); GETVEC(0); WRITEN(F(1)) $)", 5, "108");
        Check.prints("LET F(a) = a + 1; LET START() BE $( LET x, y = GETVEC(2), GETVEC(3983); WRITEN(y); WRITEN(F(1)) $)", "1092");
        // START's frame is there already when a vector is got right behind it.
        Check.prints("LET START() BE $( LET x = GETVEC(4095 - 104); WRITEN(x); !x := 5; x := 6; WRITEN(!104) $)", "1045");
        Check.prints("LET F(n) = n = 0 -> GETVEC(#) , F(n - 1); LET START() BE WRITEN(F(3))".replace("#", "" + (4095 - 116)), "116");
        Check.prints("LET F(n) = n = 0 -> GETVEC(#) , F(n - 1); LET START() BE WRITEN(F(3))".replace("#", "" + (4095 - 115)), "0");
    }

    /** "FREEVEC(v) frees one (by its address; 0: nothing; another: error 2)". */
    private static void freeing() {
        String get = "LET v = GETVEC(5); WRITEN(1); ";
        for (String other : new String[] {"v + 1", "v - 1", "v + 5", "v + 6", "-1", "1", "-v", "4096", "2147483647", "-2147483648"}) {
            Check.fails(Check.start(get + "FREEVEC(" + other + ")"), 2, "1");
        }
        Check.does(get + "WRITEN(FREEVEC(0)); WRITEN(FREEVEC()); WRITEN(FREEVEC(v)); WRITEN(GETVEC(5) = v)", "1000-1");
        Check.fails(Check.start(get + "FREEVEC(v); FREEVEC(v)"), 2, "1");
        Check.fails(Check.start(get + "FREEVEC(GETVEC(9999) + v); FREEVEC(v)"), 2, "1");
        Check.does("FREEVEC(GETVEC(-1)); FREEVEC(GETVEC(9999)); WRITEN(5)", "5");
        Check.does("LET a, b, c = GETVEC(1), GETVEC(2), GETVEC(3); FREEVEC(b); FREEVEC(a); FREEVEC(c); WRITEN(GETVEC(8) = c); WRITEN(c)", "-14087");
    }

    /** "APTOVEC(f, n): f (an entry, else error 4; n 0 .. less than the store's words, else error 2)". */
    private static void applying() {
        for (int words : new int[] {4096, 8192, 65536}) {
            // START's frame: 102 and 103; the vector from 104 on; F's frame of four words behind it.
            String f = "LET F(v, n) BE $( v!n := 6; WRITEN(v!n); WRITEN(v); WRITEN(@v - 2 - n) $); LET START() BE $( WRITEN(1); APTOVEC(F, #) $)";
            Check.ends(words, f.replace("#", "0"), 0, "16104105");
            Check.ends(words, f.replace("#", "" + (words - 104 - 4 - 1)), 0, "16104105");
            Check.ends(words, f.replace("#", "" + (words - 104 - 4)), 5, "1");
            Check.ends(words, f.replace("#", "" + (words - 1)), 5, "1");
            for (int n : new int[] {-1, -2147483648, words, words + 1, 2147483647}) {
                Check.ends(words, f.replace("#", "" + n), 2, "1");
            }
            WordTongue x = Check.sized(words, f.replace("#", "" + (words + 1)));
            Check.due("run", x.run(10), 2);
            Check.due("it takes no fuel", x.fuel(), 7);
        }
        // The lowest vector bounds it, too.
        String g = "LET F(v, n) = n; LET START() BE $( LET x = GETVEC(9); WRITEN(APTOVEC(F, #)) $)";
        Check.prints(g.replace("#", "" + (4086 - 105 - 5)), "3976");
        Check.fails(g.replace("#", "" + (4086 - 105 - 4)), 5, "");
        // More parameters than two are 0, less get nothing.
        Check.prints("LET F(v, n, a, b) BE $( WRITEN(v); WRITEN(n); WRITEN(a); WRITEN(b) $); LET START() BE APTOVEC(F, 3, 7, 8)", "104300");
        Check.prints("LET F(v) BE WRITEN(v); LET G() BE WRITEN(2); LET START() BE $( APTOVEC(F, 3); APTOVEC(G, 3) $)", "1052");
        Check.prints("LET F(v, n) BE RETURN; LET START() BE WRITEN(APTOVEC(F))", "0");
    }

    /** "(of a library's: they must be there, else error 5)". */
    private static void applyingLibrary() {
        for (int words : new int[] {4096, 8192, 65536}) {
            Check.ends(words, Check.start("APTOVEC(WRITEN, 0); APTOVEC(WRITEN, " + (words - 103 - 1) + ")"), 0, "103103");
            Check.ends(words, Check.start("APTOVEC(WRITEN, " + (words - 103) + ")"), 5, "");
            Check.ends(words, Check.start("APTOVEC(WRITEN, " + (words - 1) + ")"), 5, "");
            Check.ends(words, Check.start("APTOVEC(WRITEN, " + words + ")"), 2, "");
            Check.ends(words, Check.start("APTOVEC(WRITEN, -1)"), 2, "");
        }
        Check.does("APTOVEC(WRITED, 5); WRITEN(APTOVEC(ABS, 5)); WRITEN(APTOVEC(RDCH, 1)); WRITEN(APTOVEC(SELECTINPUT, 1))", "  103103-10");
        Check.fails(Check.start("APTOVEC(MULDIV, 5)"), 3, "");
        Check.fails(Check.start("APTOVEC(FREEVEC, 5)"), 2, "");
        Check.fails(Check.start("APTOVEC(APTOVEC, 5)"), 4, "");
        Check.does("WRITEN(APTOVEC(GETVEC, 5)); WRITEN(APTOVEC(READN, 0))", (4095 - 103) + "0");
        Check.does("APTOVEC(WRITES, 0)", "");
    }
}
