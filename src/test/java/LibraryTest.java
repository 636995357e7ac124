/** The library's routines but those of vectors, the inputs and the outputs (promises 7, 8, 10 and 11). */
public final class LibraryTest {
    public static void main(String[] args) {
        numbers();
        texts();
        reading();
        readingNumbers();
        choosing();
        reckoning();
        anyArguments();
        Check.end();
    }

    private static void numbers() {
        Check.does("WRITEN(0); WRITEN(-0); WRITEN(7); WRITEN(-7); WRITEN(10); WRITEN(100); WRITEN(2147483647); WRITEN(-2147483648); WRITEN(1000000000)", "007-7101002147483647-21474836481000000000");
        Check.does("WRITED(5, 4); WRITED(-5, 4); WRITED(12345, 4); WRITED(1234, 4); WRITED(7, 0); WRITED(7, -5); WRITED(7, 1); WRITED(0, 2)", "   5  -512345123477" + "7 0");
        Check.does("WRITED(5, 101); WRITED(6, 2147483647); WRITED(8, -2147483648)", Check.times(" ", 99) + "5" + Check.times(" ", 99) + "68");
        Check.does("WRITED(-2147483648, 12); WRITED(5); WRITED()", " -214748364850");
        Check.does("WRITEHEX(#XABCDEF01, 8); WRITEHEX(#XABCDEF01, 3); WRITEHEX(#X2A, 1); WRITEHEX(255, 0); WRITEHEX(254, -9); WRITEHEX(1, 9); WRITEHEX(-1, 100); WRITEHEX(19)", "ABCDEF01F01AFE00000001FFFFFFFF3");
    }

    private static void texts() {
        Check.does("WRITES(\"\"); WRITES(\"a\"); WRITES(\"abc\"); WRITES(\"abcd\"); WRITES(\"abcdefgh\"); NEWLINE(); WRCH('x'); WRCH(65 + 256); WRCH(-191)", "aabcabcdabcdefgh\nxAA");
        // A string's words must all be in the store; else nothing of it is put out.
        Check.does("!4095 := 'a' * 256 + 1; WRITES(4095)", "a");
        Check.does("!4095 := 'c' * 65536 + 'b' * 256 + 3; WRITES(4095)", "bc\u0000");
        Check.fails(Check.start("!4095 := 'b' * 256 + 4; WRCH('.'); WRITES(4095)"), 2, ".");
        Check.fails(Check.start("!4095 := 255; WRITES(4095)"), 2, "");
        Check.fails(Check.start("WRITES(4096)"), 2, "");
        Check.fails(Check.start("WRITES(-1)"), 2, "");
        Check.does("WRITES(4095); WRITES(); WRITES(0)", "");
        Check.does("LET v = VEC 63; v!0 := 255; FOR i = 1 TO 255 DO v%i := 'a' + i REM 26; v%0 := 255; WRITES(v)", alphabet());
    }

    private static String alphabet() {
        StringBuilder all = new StringBuilder();
        for (int i = 1; i <= 255; i++) {
            all.append((char) ('a' + i % 26));
        }
        return all.toString();
    }

    private static String reads(String input, String commands) {
        WordTongue x = new WordTongue();
        Check.input(x, 0, input);
        Check.compile(x, Check.start(commands));
        Check.due("run of <" + commands + ">", x.run(10000), 0);
        return Check.out(x, 0);
    }

    private static void reading() {
        Check.due("bytes", reads("a\n\u00ff", "FOR i = 1 TO 5 DO $( WRITEN(RDCH()); WRCH(' ') $)"), "97 10 255 -1 -1 ");
        Check.due("bytes 0", reads("\u0000\u0000a", "WRITEN(RDCH()); WRITEN(RDCH()); WRITEN(UNRDCH()); WRITEN(RDCH()); WRITEN(RDCH())"), "00-1097");
        Check.due("an input that is not there", reads("", "WRITEN(RDCH()); WRITEN(UNRDCH()); WRITEN(RDCH())"), "-10-1");
        Check.due("back", reads("abc", "WRCH(RDCH()); WRITEN(UNRDCH()); WRCH(RDCH()); WRCH(RDCH()); WRITEN(UNRDCH()); WRITEN(UNRDCH()); WRITEN(UNRDCH()); WRCH(RDCH())"), "a-1ab-1-10a");
        Check.due("back behind the end", reads("ab", "RDCH(); RDCH(); WRITEN(RDCH()); WRITEN(RDCH()); WRITEN(UNRDCH()); WRCH(RDCH()); WRITEN(RDCH())"), "-1-1-1b-1");
        Check.due("rewound", reads("ab", "RDCH(); RDCH(); RDCH(); WRITEN(REWIND()); WRCH(RDCH()); REWIND(); WRITEN(UNRDCH()); WRCH(RDCH())"), "0a0a");
    }

    private static void readingNumbers() {
        String three = "FOR i = 1 TO 3 DO $( WRITEN(READN()); WRCH(' ') $); WRITEN(RDCH())";
        Check.due("plain", reads("12 -34\t\r\n +56;", three), "12 -34 56 59");
        Check.due("no digits", reads("x", three), "0 0 0 120");
        Check.due("signs without digits are passed", reads("-+ 5", three), "0 0 5 -1");
        Check.due("sign and blank", reads("- 5 6", three), "0 5 6 -1");
        Check.due("wraps", reads("4294967297 2147483648 -2147483649", three), "1 -2147483648 2147483647 -1");
        Check.due("wraps far", reads("99999999999999999999", "WRITEN(READN())"), "1661992959");
        Check.due("blanks at the end are passed", reads("  ", "WRITEN(READN()); WRITEN(RDCH()); WRITEN(UNRDCH()); WRITEN(RDCH())"), "0-1-132");
        Check.due("a byte that is no blank", reads("\u000b5", "WRITEN(READN()); WRITEN(RDCH())"), "011");
        Check.due("back behind a number", reads("12x", "READN(); UNRDCH(); WRCH(RDCH())"), "2");
        Check.due("a point ends it", reads("1.5", "WRITEN(READN()); WRCH(RDCH()); WRITEN(READN())"), "1.5");
    }

    private static void choosing() {
        WordTongue x = new WordTongue();
        for (int k = 0; k < 4; k++) {
            Check.input(x, k, "abcd".substring(k) + k);
        }
        Check.compile(x, Check.start("FOR k = -1 TO 4 DO $( WRITEN(SELECTINPUT(k)); WRCH(RDCH()) $); SELECTINPUT(1); WRCH(RDCH()); SELECTINPUT(); WRCH(RDCH())"));
        Check.due("run", x.run(100), 0);
        Check.due("inputs", Check.out(x, 0), "0a" + "-1b-1b-1c-1d03cc");
        // Input 0 is at hand in each run at first, from where it is.
        Check.compile(x, Check.start("WRCH(RDCH()); SELECTINPUT(2); WRCH(RDCH())"));
        x.run(100);
        Check.due("inputs again", Check.out(x, 0), "dd");
        Check.compile(x, Check.start("WRITEN(SELECTOUTPUT(1)); WRITEN(SELECTOUTPUT(2)); WRITEN(SELECTOUTPUT(-1)); WRITES(\"one\"); WRITEN(SELECTOUTPUT(0)); WRITEN(SELECTOUTPUT(1)); NEWLINE()"));
        Check.due("run", x.run(100), 0);
        // What a call tells is written when the call has chosen.
        Check.due("output 0", Check.out(x, 0), "-1");
        Check.due("output 1", Check.out(x, 1), "-100one-1\n");
        Check.compile(x, Check.start("WRITEN(7)"));
        x.run(100);
        Check.due("output 0 is at hand at first", Check.out(x, 0), "7");
        Check.due("output 1 is empty", x.out(1), 0);
    }

    private static void reckoning() {
        Check.does("WRITEN(ABS(5)); WRITEN(ABS(-5)); WRITEN(ABS(0)); WRITEN(ABS(-2147483648)); WRITEN(ABS())", "550-21474836480");
        Check.does("WRITEN(MULDIV(7, 3, 2)); WRITEN(MULDIV(-7, 3, 2)); WRITEN(MULDIV(7, -3, -2)); WRITEN(MULDIV(7, 3, -2))", "10-1010-10");
        Check.does("WRITEN(MULDIV(1000000000, 6, -4)); WRITEN(MULDIV(2147483647, 2147483647, 2147483647)); WRITEN(MULDIV(-2147483648, -2147483648, 1)); WRITEN(MULDIV(-2147483648, 1, -1)); WRITEN(MULDIV(65536, 65536, 3)); WRITEN(MULDIV(2000000000, 3, 1))",
            "-1500000000" + "2147483647" + "0" + "-2147483648" + "1431655765" + "1705032704");
        Check.fails(Check.start("WRITEN(1); MULDIV(1, 1, 0); WRITEN(2)"), 3, "1");
        Check.fails(Check.start("WRITEN(1); MULDIV(1, 1)"), 3, "1");
    }

    private static void anyArguments() {
        Check.does("WRITEN(1, 2, 3); WRITEN(); WRCH('a', 'b'); NEWLINE(9)", "10a\n");
        Check.does("WRITEN(WRITEN(1)); WRITEN(WRITES(\"a\")); WRITEN(WRCH('b')); WRITEN(NEWLINE()); WRITEN(WRITED(1, 2)); WRITEN(WRITEHEX(1, 1)); WRITEN(FREEVEC(0))", "10a0b0\n0 10100");
        Check.does("LET v = VEC 1; v!1 := WRITEN; (v!1)(5); (1 -> WRCH, 0)('x'); 2000000(6)", "5x6");
        Check.does("WRITEN(VALOF $( WRITES(\"x\"); RESULTIS ABS(-4) $))", "x4");
        // Library calls take no fuel of their own.
        Check.takes("LET START() BE WRITEN(ABS(ABS(ABS(1))))", 2);
        Check.takes("LET START() = ABS(-3) + ABS(3)", 1);
    }
}
