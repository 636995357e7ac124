/** Each edge that the part TEXT of the document names: the last case that stands, and the first that doesn't (promises 4 and 5). */
public final class TextEdgesTest {
    private static final String GO = "; LET START() BE FINISH";

    public static void main(String[] args) {
        longNames();
        longTags();
        greatNumbers();
        everyByteQuoted();
        everyByteInStrings();
        everyByteAlone();
        longStrings();
        endsOfTheText();
        argumentsAndParameters();
        asMany();
        semicolonsUnderstood();
        noneUnderstood();
        Check.end();
    }

    private static String value(String e) {
        return "LET START() BE WRITEN(" + e + ")";
    }

    /** "NAMES (a letter, then letters, digits, . and _ ; at most 40)". */
    private static void longNames() {
        for (String rest : new String[] {"a", "Z", "0", "9", ".", "_"}) {
            for (String first : new String[] {"a", "z", "A", "Z"}) {
                String forty = first + Check.times(rest, 39);
                Check.prints("STATIC $( " + forty + " = 7 $); " + value(forty), "7");
                Check.fault("STATIC $( ^" + forty + rest + " = 7 $)" + GO, 1);
            }
        }
        String forty = "n" + Check.times("x", 39);
        String[] uses = {"LET # () BE FINISH", "LET F(#) = 1", "LET F(a, #) = 1", "GLOBAL $( #: 1 $)", "MANIFEST $( # = 1 $)", "LET F() BE $( LET # = 1 $)",
            "LET F() BE $( #: FINISH $)", "LET F() BE FOR # = 1 TO 2 DO FINISH", "LET # () = 1 AND G() BE # ()"};
        for (String use : uses) {
            Check.good(use.replace("#", forty) + GO);
            Check.fault(use.replace("#", forty + "x") + GO, 1, use.indexOf('#'));
        }
        // Names that differ in their last sign alone are two; one and the same is one.
        String other = forty.substring(0, 39) + "y";
        Check.prints("STATIC $( " + forty + " = 1; " + other + " = 2 $); " + value(forty + " * 10 + " + other), "12");
        Check.fault("STATIC $( " + forty + " = 1; ^" + forty + " = 2 $)" + GO, 4);
        Check.prints("STATIC $( a = 1 $); " + value("a"), "1");
    }

    /** "Behind $( and $) , without anything between, may stand a TAG, as the rest of a name (at most 40)". */
    private static void longTags() {
        for (String sign : new String[] {"a", "Z", "0", ".", "_"}) {
            String forty = Check.times(sign, 40);
            Check.good("LET START() BE $(" + forty + " FINISH $)" + forty);
            Check.good("LET START() BE $(" + forty + " $( FINISH $)" + forty);
            Check.fault("LET START() BE ^$(" + forty + sign + " FINISH $)", 1);
            Check.fault("LET START() BE $(" + forty + " FINISH ^$)" + forty + sign, 1);
            Check.good("LET START() BE $(" + sign + " FINISH $)" + sign);
        }
        for (String sign : new String[] {"-", "(", "'", "$(", "@", "#"}) {
            Check.due("no tag", Check.compiled("LET START() BE $(" + sign + " FINISH $)" + sign).startsWith("ok"), false);
        }
        // "without a tag it ends the innermost"; with one "stays if that has not this tag, but one around it has".
        for (String tag : new String[] {"A", "TRUE", "IF", "7", "_", ".", "a.b_C9"}) {
            Check.prints("LET START() BE $(" + tag + " $(B WRITEN(1) $)" + tag, "1");
            Check.prints("LET START() BE $(" + tag + " $(B WRITEN(1) $); WRITEN(2) $)" + tag, "12");
            Check.prints("LET START() BE $(" + tag + " $( WRITEN(1) $); WRITEN(2) $)", "12");
            Check.fault("LET START() BE $( $(B WRITEN(1) ^$)" + tag, 2);
            Check.fault("LET START() BE $( $(" + tag + " WRITEN(1) $)" + tag + "; WRITEN(2) ^$)" + tag, 2);
            Check.fault("LET START() BE $(" + tag + " $(B WRITEN(1) $)" + tag + " ^$)" + tag, 2);
        }
        // The section that stays open is ended by its own $) ; none that was ended before counts.
        Check.prints("LET START() BE $(A $(B $(C WRITEN(1) $)B; WRITEN(2) $)A", "12");
        Check.fault("LET START() BE $(A $(B WRITEN(1) $)B; $( WRITEN(2) ^$)B $)", 2);
        Check.fault("LET F() BE $(A FINISH $)A; LET START() BE $( FINISH ^$)A", 2);
    }

    /** "NUMBERS (... below 2 to the power 32, so many bits)". */
    private static void greatNumbers() {
        for (String zeros : new String[] {"", "0", Check.times("0", 60)}) {
            Check.prints(value(zeros + "4294967295"), "-1");
            Check.prints(value("#" + zeros + "37777777777"), "-1");
            Check.prints(value("#X" + zeros + "FFFFFFFF"), "-1");
            Check.prints(value(zeros + "2147483648"), "-2147483648");
            Check.prints(value("#" + zeros + "20000000000"), "-2147483648");
            Check.prints(value("#X" + zeros + "80000000"), "-2147483648");
            Check.prints(value(zeros + "2147483647"), "2147483647");
            Check.prints(value("#" + zeros + "17777777777"), "2147483647");
            Check.prints(value("#X" + zeros + "7FFFFFFF"), "2147483647");
            Check.fault("LET START() BE WRITEN(^" + zeros + "4294967296)", 1);
            Check.fault("LET START() BE WRITEN(^#" + zeros + "40000000000)", 1);
            Check.fault("LET START() BE WRITEN(^#X" + zeros + "100000000)", 1);
        }
        Check.fault("LET START() BE WRITEN(^18446744073709551616)", 1);
        Check.fault("LET START() BE WRITEN(^#X10000000000000000)", 1);
        Check.fault("LET START() BE WRITEN(^" + Check.times("9", 400) + ")", 1);
        // The digits of each kind: the last one, and the first that is none.
        Check.prints(value("#7"), "7");
        Check.fault("LET START() BE WRITEN(^#8)", 1);
        Check.fault("LET START() BE WRITEN(#07^8)", 2);
        Check.prints(value("#XF + #X9 + #XA + #X0"), "34");
        for (String none : new String[] {"G", "a", "f", "@", ":", "/", "`"}) {
            Check.fault("LET START() BE WRITEN(^#X" + none + ")", 1);
        }
        for (String none : new String[] {"A", "x", "/", ":", "-", ""}) {
            Check.fault("LET START() BE WRITEN(^#" + none + ")", 1);
        }
        Check.prints(value("0 + #0 + #X0"), "0");
        Check.prints(value("#10 * 100 + #X10"), "816");
    }

    /** What an escape stands for: -1 when there is none with this sign. */
    private static int escaped(int b) {
        switch (b) {
            case 'N':
                return 10;
            case 'S':
                return 32;
            case 'T':
                return 9;
            case '\'':
            case '"':
            case '*':
                return b;
            default:
                return -1;
        }
    }

    /** "'C' (C a byte 32 .. 126 but ' and * , or *N *S *T *' *" ** ...)". */
    private static void everyByteQuoted() {
        for (int b = 0; b < 256; b++) {
            String plain = "'" + (char) b + "'";
            if (b >= 32 && b <= 126 && b != '\'' && b != '*') {
                Check.prints(value(plain), "" + b);
            } else {
                Check.fault("LET START() BE WRITEN(^" + plain + ")", 1);
            }
            String behindStar = "'*" + (char) b + "'";
            if (escaped(b) >= 0) {
                Check.prints(value(behindStar), "" + escaped(b));
            } else {
                Check.fault("LET START() BE WRITEN(^" + behindStar + ")", 1);
            }
        }
        for (String bad : new String[] {"''", "'ab'", "'*Na'", "'a", "'*N", "'*", "'"}) {
            Check.fault("LET START() BE WRITEN(^" + bad + ")", 1);
            Check.fault("LET START() = ^" + bad, 1);
        }
    }

    /** ""..." (of C's, but " for ' ...)". */
    private static void everyByteInStrings() {
        for (int b = 0; b < 256; b++) {
            String plain = "\"" + (char) b + "\"";
            if (b >= 32 && b <= 126 && b != '"' && b != '*') {
                Check.prints(value(plain + "!0"), "" + (b * 256 + 1));
            } else if (b != '"') {
                Check.fault("LET START() BE WRITEN(^" + plain + ")", 1);
            }
            String behindStar = "\"*" + (char) b + "\"";
            if (escaped(b) >= 0) {
                Check.prints(value(behindStar + "!0"), "" + (escaped(b) * 256 + 1));
            } else {
                Check.fault("LET START() BE WRITEN(^" + behindStar + ")", 1);
            }
        }
    }

    /** Which bytes are tokens, part them, or are neither. */
    private static void everyByteAlone() {
        String parting = "\t\n\r ";
        String signs = "(),;:!%@+-*/=<>~&|";
        for (int b = 0; b < 256; b++) {
            char c = (char) b;
            String text = "LET START() BE WRITEN(1) " + c;
            boolean isName = c >= 'A' && c <= 'Z' || c >= 'a' && c <= 'z';
            if (parting.indexOf(c) >= 0 || c == ';') {
                Check.good(text);
            } else if (isName || c >= '0' && c <= '9') {
                Check.fault(text, 2, 25);
            } else if (signs.indexOf(c) >= 0) {
                Check.due("fault of <" + text + ">", Check.compiled(text).startsWith("2@"), true);
            } else {
                Check.fault(text, 1, 25);
            }
        }
        for (String sign : new String[] {"$(", "$)", ":=", "->", "~=", "<=", ">=", "<<", ">>"}) {
            Check.due("a token", Check.compiled("LET START() BE WRITEN(1) " + sign).startsWith("2@"), true);
        }
        Check.fault("LET START() BE WRITEN(1) ^$", 1);
        Check.fault("LET START() BE WRITEN(1) ^$ (", 1);
    }

    /** ""..." (of C's ...; at most 200)". */
    private static void longStrings() {
        for (String c : new String[] {"x", "'", "*N", "*\"", "**"}) {
            String sign = c.equals("*N") ? "\n" : c.substring(c.length() - 1);
            for (int count : new int[] {0, 1, 2, 3, 4, 199, 200}) {
                Check.does("WRITES(\"" + Check.times(c, count) + "\")", Check.times(sign, count));
            }
            for (int count : new int[] {201, 202, 255, 256, 400}) {
                Check.fault("LET START() BE WRITES(^\"" + Check.times(c, count) + "\")", 1);
            }
        }
        // The first fault from the left: what is wrong in it, or how long it is, makes it none at its first byte.
        Check.fault("LET START() BE WRITES(^\"" + Check.times("x", 300) + "\n\")", 1);
        // Packed: the count, then they, 0s at the end.
        for (int count = 0; count <= 200; count++) {
            WordTongue x = new WordTongue();
            int words = 1 + count / 4;
            Check.due("words of a string of " + count, Check.compile(x, "LET START() BE $( LET s = \"" + Check.times("A", count) + "\" $)"), 101 + words);
            x.run(10);
            int last = (count & 3) == 0 ? 65 : (count & 3) == 1 ? 0x4141 : (count & 3) == 2 ? 0x414141 : 0x41414141;
            last = count / 4 == 0 ? last & ~255 | count : last;
            Check.due("the last word of a string of " + count, x.word(100 + words), last);
            Check.due("how many in a string of " + count, x.word(101) & 255, count);
        }
    }

    /** "Text: D {; D}, perhaps a ; at its end"; "the text's length at the end". */
    private static void endsOfTheText() {
        Check.fault("", 2, 0);
        Check.fault(" ", 2, 1);
        Check.fault("//", 2, 2);
        Check.fault("// LET START() BE FINISH", 2, 24);
        Check.good("LET START() BE FINISH //");
        Check.good("//\nLET START() BE FINISH//");
        Check.fault("LET START() BE X := 1 / ^/", 2);
        Check.fault("LET START() BE X := ", 2, 20);
        Check.fault("LET START() BE X := // more", 2, 27);
        Check.fault(";", 2, 0);
        // The longest text: all its bytes count, and its end lies at 6000.
        String longest = Check.times(" ", 6000 - 21) + "LET START() BE FINISH";
        Check.due("a text of 6000 bytes", Check.compiled(longest), "ok 101");
        Check.fault(Check.times(" ", 6000 - 14) + "LET START() BE", 2, 6000);
        Check.fault(Check.times(" ", 6000 - 15) + "LET START() = X", 3, 5999);
        Check.fault(Check.times(" ", 5999) + "?", 1, 5999);
        Check.fault(Check.times(" ", 6000), 2, 6000);
        Check.due("a comment of 6000 bytes", Check.compiled("LET START()=1//" + Check.times("?", 5985)), "ok 101");
    }

    /** "arguments and parameters are at most 20 (the , ahead of more can't)". */
    private static void argumentsAndParameters() {
        String names = "a1";
        String values = "1";
        for (int i = 2; i <= 19; i++) {
            names += ", a" + i;
            values += ", " + i;
        }
        Check.prints("LET F(" + names + ") = a19; LET START() BE WRITEN(F(" + values + "))", "19");
        Check.prints("LET F(" + names + ", z) = z; LET START() BE WRITEN(F(" + values + ", 77))", "77");
        Check.prints("LET F(" + names + ", z) = z; LET START() BE WRITEN(F(" + values + "))", "0");
        Check.fault("LET F(" + names + ", y^, z) = z; LET START() BE WRITEN(F(" + values + "))", 2);
        Check.fault("LET F(" + names + ", y) = y; LET START() BE WRITEN(F(" + values + ", 77^, 78))", 2);
        Check.fault("LET F(" + names + ", y^,) = y" + GO, 2);
        Check.fault("LET START() BE START(1)(" + values + ", 20^, 21)", 2);
        Check.fault("LET START() BE $( LET f(" + names + ", y^, z) BE FINISH; FINISH $)", 2);
        Check.prints("LET START(" + names + ", z) BE WRITEN(z)", "0");
        // The library's, too; and each list counts for itself.
        Check.prints("LET START() BE WRITEN(" + values + ", 20)", "1");
        Check.fault("LET START() BE WRITEN(" + values + ", 20^, 21)", 2);
        Check.prints("LET F(a) = a; LET START() BE WRITEN(F(" + values + ", F(" + values + ", 20)))", "1");
        Check.good("LET START() BE START(" + values + ", 20)(" + values + ", 20)");
        // None, and one: a , with nothing behind it can't stand.
        Check.prints("LET F() = 5; LET G(a) = a; LET START() BE WRITEN(F() + G() + G(1))", "6");
        Check.fault("LET F(^,) = 1" + GO, 2);
        Check.fault("LET F(a,^) = 1" + GO, 2);
        Check.fault("LET START() BE START(^,)", 2);
        Check.fault("LET START() BE START(1,^)", 2);
    }

    /** "(as many; a , too many can't stand)" of LET, and "(as many)" of := . */
    private static void asMany() {
        String head = "LET START() BE $( LET p, q, r = 1, 2, 3; ";
        String names = "a1";
        String values = "1";
        for (int i = 2; i <= 30; i++) {
            names += ", a" + i;
            values += ", " + i;
            Check.good(head + "LET " + names + " = " + values + "; " + names + " := " + values + " $)");
            Check.fault(head + "LET " + names + " = " + values + "^, 0 $)", 2);
            Check.fault(head + "LET " + names + ", z = " + values + " ^$)", 2);
            Check.fault(head + "LET " + names + " = " + values + "; " + names + " := " + values + "^, 0 $)", 2);
            Check.fault(head + "LET " + names + " = " + values + "; " + names + ", p := " + values + " ^$)", 2);
        }
        Check.good(head + "LET v, w = VEC 1, VEC 2 $)");
        Check.fault(head + "LET v = VEC 1^, VEC 2 $)", 2);
        Check.fault(head + "LET v, w = VEC 1 ^$)", 2);
        Check.fault(head + "LET v, w = VEC 1^; FINISH $)", 2);
    }

    private static final String[] EXPRESSIONS = {"b", "1", "'x'", "\"s\"", "(b)", "VALOF $( $)", "VALOF $(T $)T", "TRUE", "FALSE", "a(1)"};
    private static final String[] WORDS = {"BREAK", "LOOP", "ENDCASE", "RETURN", "FINISH"};
    private static final String[] COMMANDS = {"a := 1", "1 := a", "#7 := a", "'x' := a", "\"s\" := a", "(a) := 1", "!a := 1", "@a := 1", "$( $)", "$(T $)T", "TRUE := 1", "FALSE := 1", "VALOF $( $) := 1", "TABLE 1 := 1",
        "IF a DO ;", "UNLESS a DO ;", "TEST a THEN FINISH OR ;", "WHILE a DO ;", "UNTIL a DO ;", "FOR i = 1 TO 2 DO ;", "SWITCHON a INTO $( $)", "CASE 1: ;", "DEFAULT: ;", "BREAK", "LOOP", "ENDCASE", "RETURN",
        "RESULTIS 1", "FINISH", "GOTO L"};
    private static final String[] DECLARATIONS = {"LET x = 1", "LET f() = 1", "GLOBAL $( g: 1 $)", "MANIFEST $( m = 1 $)", "STATIC $( s = 1 $)"};

    /** "a ; is understood if the first is a name, number, ... FINISH, and the second a name, number, ... STATIC": each of the first with each of the second. */
    private static void semicolonsUnderstood() {
        for (String command : COMMANDS) {
            for (String e : EXPRESSIONS) {
                between("SWITCHON a INTO $( a := " + e, command, " $)");
                between("SWITCHON a INTO $( a := 1; $( $) REPEATWHILE " + e, command, " $)");
            }
            for (String word : WORDS) {
                between("SWITCHON a INTO $( " + word, command, " $)");
            }
            between("SWITCHON a INTO $( $( $)", command, " $)");
            between("SWITCHON a INTO $( GOTO L", command, " $)");
            // It can't stand there: the fault's place is that of the token behind.
            int place = "LET START(a, b) BE a(1\n".length();
            Check.fault("LET START(a, b) BE a(1\n" + command + ")", 2, place);
            Check.fault("LET START(a, b) BE a(1//" + command + "\n\n " + command + ")", 2, place + 4 + command.length());
        }
        for (String declaration : DECLARATIONS) {
            for (String e : EXPRESSIONS) {
                between("$( LET z = " + e, declaration, " $)");
                between("$( LET h() = " + e, declaration, " $)");
            }
            for (String word : WORDS) {
                between("$( LET h() BE " + word, declaration, " $)");
            }
            between("$( STATIC $( z = 1 $)", declaration, " $)");
            if (!declaration.equals("LET x = 1")) {
                Check.stands("LET START() BE FINISH\n" + declaration + "\n");
                Check.fault("LET START() BE FINISH ^" + declaration + "\n", 2);
            }
            Check.stands(declaration.equals("LET x = 1") ? "LET START() = 1" : declaration + "\nLET START() BE FINISH\n");
        }
        for (String kind : new String[] {"GLOBAL $( A: 1#B: 2 $)", "MANIFEST $( A = 1#B = A#C = (A)#D = 'x'#E = TRUE#F = 2 $)", "STATIC $( A = 1#B = FALSE $)"}) {
            Check.good((kind + "#LET START() BE FINISH").replace("#", "\n"));
            Check.good((kind + "#LET START() BE FINISH").replace("#", " // \n\t\n//\n\r"));
            Check.due("none in one line", Check.compiled((kind + "#LET START() BE FINISH").replace("#", " ")).startsWith("2@"), true);
        }
    }

    private static void between(String one, String other, String behind) {
        String head = "LET START(a, b) BE " + one;
        for (String part : new String[] {"\n", " \n", "\n ", "\r\n", " // ;\n", "\n//\n\n\t"}) {
            Check.stands(head + part + other + behind);
        }
        // In one line none is understood; ( and ! go on with what is ahead of them, as @ and $( can't.
        boolean goesOn = other.startsWith("(") || other.startsWith("!");
        if (!goesOn) {
            Check.fault(head + " ^" + other + behind, 2);
            Check.fault(head + "\t\r ^" + other + behind, 2);
        }
    }

    /** Behind other tokens, and ahead of others, none is understood. */
    private static void noneUnderstood() {
        String head = "LET START(a, b) BE $( L: ";
        String[] good = {"a := b\n+ 1", "a := b\n- 1", "a := b\n* 1", "a := b\n/ 1", "a := b\nREM 1", "a := b\n= 1", "a := b\n~= 1", "a := b\n< 1", "a := b\n<= 1", "a := b\n> 1", "a := b\n>= 1", "a := b\n<< 1",
            "a := b\n>> 1", "a := b\n& 1", "a := b\n| 1", "a := b\nEQV 1", "a := b\nNEQV 1", "a := b\n% 1", "a := b\n-> 1\n, 2", "a\n:= 1", "a\n, b\n:= 1\n, 2", "a := (1\n)", "a := b\n; b := a", "FINISH\n; FINISH",
            "IF a\nTHEN FINISH", "IF a\nDO FINISH", "TEST a THEN FINISH\nOR FINISH", "TEST a THEN $( $)\nELSE FINISH", "FOR i = 1\nTO 2\nBY 3\nDO FINISH", "SWITCHON a\nINTO $( CASE 1\n: CASE 'x'\n: M\n: FINISH $)",
            "FINISH\nREPEAT", "$( $)\nREPEATWHILE a\nREPEATUNTIL b", "$( FINISH\n$)", "M\n: FINISH", "$( LET f()\nBE FINISH\nAND g()\n= 1; FINISH $)",
            // The first is none of them.
            "a :=\nb", "a := b +\n1", "a := -\n1", "a := NOT\n1", "a := ~\n(b)", "a := !\nb", "a := @\nb", "a := b !\nb", "a := b %\n1", "a :=\n(\nb)", "a(\n1,\nb)", "a, \nb := 1,\n2", "a := b ->\n1,\n2", "a := VALOF\nRESULTIS\n1",
            "a := TABLE\n1,\n2", "a := b REM\n1", "a := b EQV\n(1)", "a := b <\n1", "a := b &\n1", "IF\na DO\nFINISH", "UNLESS\na DO\n$( $)", "TEST\na THEN\nFINISH OR\nFINISH", "WHILE\na DO\nIF a DO\n!a := 1", "UNTIL\na THEN\n(a) := 1",
            "FOR\ni =\n1 TO\n2 BY\n3 DO\n$( $)", "SWITCHON\na INTO\n$(\nCASE\n1:\nCASE 2:\nDEFAULT:\nM:\nFINISH;\n$)", "$(\nFINISH;\nFINISH $)", "GOTO\nL", "M:\nFINISH", "$( $) REPEATWHILE\na REPEATUNTIL\n(b)",
            "$(\nLET\nc,\nd =\n1,\n2;\nLET\nf(\nc,\nd) =\n1 AND\ng() BE\nFINISH;\nLET v = VEC\n5;\nSTATIC\n$(\ns =\n1;\nt = 2 $);\nGLOBAL\n$( h:\n1 $);\nFINISH $)"};
        for (String command : good) {
            Check.good(head + command + " $)");
            Check.good(head + command.replace("\n", " // x\n\n") + " $)");
            Check.good(head + command.replace("\n", " ") + " $)");
        }
        // What would begin a C if there were a ; .
        for (String bad : new String[] {"a := b\n^~a := 1", "a := b\n^NOT a := 1", "FINISH\n^- a := 1", "FINISH\n^+ a := 1", "FINISH\n^~ a := 1", "$( $) REPEAT\n^FINISH", "$( $) REPEAT\n^a := 1", "$( $) REPEAT\n^$( $)",
            "$( $) REPEATWHILE\n^REPEAT", "FINISH\n^VEC 3", "FINISH\n^AND f() = 1", "FINISH\n^GET", "FINISH\n^)", "IF a DO\n^)", "FINISH\n^: FINISH"}) {
            Check.fault(head + bad + " $)", 2);
        }
    }
}
