/** Tokens, the ; that are understood, and fault 1 (promises 4 and 5). A ^ marks the place of the fault due. */
public final class TokensTest {
    public static void main(String[] args) {
        names();
        numbers();
        bytes();
        strings();
        signs();
        tags();
        understood();
        firstFromTheLeft();
        Check.end();
    }

    private static String value(String e) {
        return "LET START() BE WRITEN(" + e + ")";
    }

    private static void names() {
        String forty = Check.times("aB3._", 8);
        Check.prints("STATIC $( " + forty + " = 7 $); " + value(forty), "7");
        Check.fault("STATIC $( ^" + forty + "x = 7 $); " + value("1"), 1);
        Check.fault("STATIC $( ^" + forty + ". = 7 $); " + value("1"), 1);
        Check.prints("STATIC $( a = 1; A = 2; a.b = 3; a_b = 4; a1 = 5 $); LET START() BE $( WRITEN(a); WRITEN(A); WRITEN(a.b); WRITEN(a_b); WRITEN(a1) $)", "12345");
        Check.prints("STATIC $( Aa = 1; BB = 2; AaBB = 3; BBAa = 4 $); LET START() BE $( WRITEN(Aa); WRITEN(BB); WRITEN(AaBB); WRITEN(BBAa) $)", "1234");
        Check.fault("STATIC $( ^_a = 7 $)", 1);
        Check.fault("STATIC $( ^.a = 7 $)", 1);
        Check.fault("STATIC $( Let = 7 $);LET F() BE FINISH", 7, 0);
        Check.prints("STATIC $( let = 7; Repeat = 1 $); " + value("let + Repeat"), "8");
        Check.fault("STATIC $( ^LET = 7 $)", 2);
        Check.fault("STATIC $( ^GET = 7 $)", 2);
        Check.fault("LET START() BE ^GET \"x\"", 2);
        Check.fault("^GET \"x\"", 2);
        Check.prints("STATIC $( LETS = 7; REPEATWHILES = 8 $); " + value("LETS+REPEATWHILES"), "15");
    }

    private static void numbers() {
        Check.prints(value("0"), "0");
        Check.prints(value("00000000000000000012"), "12");
        Check.prints(value("2147483647"), "2147483647");
        Check.prints(value("2147483648"), "-2147483648");
        Check.prints(value("4294967295"), "-1");
        Check.fault("LET START() BE WRITEN(^4294967296)", 1);
        Check.fault("LET START() BE WRITEN(^99999999999999999999999999)", 1);
        Check.prints(value("#17"), "15");
        Check.prints(value("#37777777777"), "-1");
        Check.fault("LET START() BE WRITEN(^#40000000000)", 1);
        Check.prints(value("#XFFFFFFFF"), "-1");
        Check.prints(value("#X0123ABCD"), "19114957");
        Check.prints(value("#X00000000000000F"), "15");
        Check.fault("LET START() BE WRITEN(^#X100000000)", 1);
        Check.fault("LET START() BE WRITEN(^#)", 1);
        Check.fault("LET START() BE WRITEN(^#X)", 1);
        Check.fault("LET START() BE WRITEN(^#XG)", 1);
        Check.fault("LET START() BE WRITEN(^#xF)", 1);
        Check.fault("LET START() BE WRITEN(^#8)", 1);
        Check.fault("LET START() BE WRITEN(^# 7)", 1);
        Check.fault("LET START() BE WRITEN(#7^8)", 2);
        Check.fault("LET START() BE WRITEN(12^AB)", 2);
        Check.fault("LET START() BE WRITEN(#XF^a)", 2);
        Check.fault("LET START() BE WRITEN(1^.)", 1);
        // Nothing need stand between two tokens.
        Check.prints("LET START()BE FOR I=1TO 3DO WRITEN(I)", "123");
    }

    private static void bytes() {
        Check.prints(value("'A'"), "65");
        Check.prints(value("' '"), "32");
        Check.prints(value("'~'"), "126");
        Check.prints(value("'\"'"), "34");
        Check.prints(value("'*N'+1000*'*S'"), "32010");
        Check.prints(value("'*T'"), "9");
        Check.prints(value("'*''"), "39");
        Check.prints(value("'*\"'"), "34");
        Check.prints(value("'**'"), "42");
        for (String bad : new String[] {"''", "'*'", "'ab'", "'*n'", "'*A'", "'", "'a", "'\n'", "'\t'", "'\u007f'", "'\u00e9'", "'*", "'**"}) {
            Check.fault("LET START() BE WRITEN(^" + bad + ")", 1);
        }
        Check.fault("LET START() BE WRITEN(^'a", 1);
    }

    private static void strings() {
        Check.does("WRITES(\"\"); WRITES(\"a'b*\"c**d*'e*S*Tf\")", "a'b\"c*d'e \tf");
        Check.does("WRITES(\"" + Check.times("x", 200) + "\")", Check.times("x", 200));
        Check.does("WRITES(\"" + Check.times("*N", 200) + "\")", Check.times("\n", 200));
        Check.fault("LET START() BE WRITES(^\"" + Check.times("x", 201) + "\")", 1);
        Check.fault("LET START() BE WRITES(^\"" + Check.times("**", 201) + "\")", 1);
        for (String bad : new String[] {"\"ab", "\"a\nb\"", "\"*n\"", "\"*x\"", "\"\u001f\"", "\"\u007f\"", "\"*\"", "\"\u00ff\""}) {
            Check.fault("LET START() BE WRITES(^" + bad + ")", 1);
        }
        Check.does("WRITES(\"// no comment\")", "// no comment");
    }

    private static void signs() {
        Check.prints("LET START() BE WRITEN(1 // a comment ) ? \"\n+ 2) // at the end", "3");
        Check.prints("\t LET\rSTART\t(\n)\nBE\nWRITEN\t(4)\r\n", "4");
        Check.prints(value("7//comment\n/2"), "3");
        for (String bad : new String[] {"?", "[", "]", "{", "}", "\\", "^", "`", "$", "$$", "$A", "\u0000", "\u000b", "\u000c", "\u0080", "\u00ff", "_", "."}) {
            Check.fault("LET START() BE WRITEN(1 " + bad + " 2)", 1, 24);
        }
        // As long as can be.
        Check.prints(value("5~=6"), "-1");
        Check.prints(value("1<<3"), "8");
        Check.prints(value("8>>2"), "2");
        Check.fault("LET START() BE WRITEN(1<<^=3)", 2);
        Check.fault("LET START() BE WRITEN(1<^>3)", 2);
        Check.fault("LET START() BE WRITEN(1 ->^= 3)", 2);
        Check.fault("LET START() BE $( LET a = 1; a : ^= 2 $)", 2);
        Check.prints(value("1- >1,2").replace("- >", "->"), "1");
        Check.fault("LET START() BE WRITEN(1- ^>1,2)", 2);
        Check.does("LET a = 3; a:=-a; WRITEN(a)", "-3");
        Check.prints(value("~5=~5"), "-1");
        Check.prints(value("(NOT 5)+(6 EQV 3)+(6 NEQV 3)"), "-7");
    }

    private static void tags() {
        String forty = Check.times("t", 40);
        Check.prints("LET START() BE $(" + forty + " WRITEN(1) $)" + forty, "1");
        Check.fault("LET START() BE ^$(" + forty + "t WRITEN(1) $)", 1);
        Check.fault("LET START() BE $( WRITEN(1) ^$)" + forty + "t", 1);
        Check.prints("LET START() BE $(1.a_B WRITEN(1) $)1.a_B", "1");
        Check.prints("LET START() BE $(IF WRITEN(1) $)IF", "1");
        Check.prints("LET START() BE $(A $(B $(C WRITEN(1) $)A", "1");
        Check.prints("LET START() BE $(A $(A WRITEN(1) $)A; WRITEN(2) $)A", "12");
        Check.prints("LET START() BE $(A $( $( WRITEN(1) $)A", "1");
        Check.prints("LET START() BE $(A WRITEN(1) $)", "1");
        Check.fault("LET START() BE $(A WRITEN(1) ^$)B", 2);
        Check.fault("LET START() BE $( WRITEN(1) ^$)B", 2);
        Check.fault("LET START() BE $(a WRITEN(1) ^$)A", 2);
        Check.fault("LET START() BE $(A WRITEN(1) $) ^A", 2);
        Check.fault("LET START() BE $(A $(B WRITEN(1) $)A ^$)A", 2);
        Check.fault("LET START() BE $(A $(B WRITEN(1) $)B", 2, 36);
        Check.fault("LET START() BE $(A WRITEN(VALOF $(B RESULTIS 1 ^$)A) $)", 2);
        Check.fault("GLOBAL $(A X: 1 ^$)B; LET START() BE FINISH", 2);
        Check.prints("GLOBAL $(A X: 1 $)A; LET START() BE $(B STATIC $(C Y = 2 $)B", "");
        Check.prints("LET START() BE $(A SWITCHON 1 INTO $(B CASE 1: WRITEN(5) $)A", "5");
        // $( and a tag are one token: nothing stands between.
        Check.fault("LET START() BE $( A ^$)", 2);
    }

    private static void understood() {
        Check.prints("LET START() BE $(\n WRITEN(1)\n WRITEN(2)\n $)\n", "12");
        Check.fault("LET START() BE $( WRITEN(1) ^WRITEN(2) $)", 2);
        Check.prints("STATIC $( A = 1\n B = 2 $)\nSTATIC $( C = 3\n $)\nLET START() BE WRITEN(A + B + C)", "6");
        Check.prints("LET F() BE RETURN\nLET START() BE WRITEN(1)\n", "1");
        // Behind each token that may end a C, ahead of each that may begin one.
        String[] ends = {"a := a", "a := 1", "a := 'x'", "a := \"s\"", "$( $)", "F()", "a := TRUE", "a := FALSE", "BREAK", "LOOP", "ENDCASE", "RETURN", "FINISH"};
        String[] begins = {"a := 1", "(F)()", "!a := 1", "$( $)", "IF a DO F()", "UNLESS a DO F()",
            "TEST a THEN F() OR F()", "WHILE a DO F()", "UNTIL a DO F()", "FOR I = 1 TO 1 DO F()", "SWITCHON a INTO $( $)", "CASE 2: F()",
            "DEFAULT: F()", "BREAK", "LOOP", "ENDCASE", "RETURN", "FINISH", "GOTO L", "1()", "'x'()", "\"s\"()", "TRUE()", "FALSE()", "VALOF $( $)()"};
        for (String one : ends) {
            for (String other : begins) {
                String all = "LET F() BE RETURN\nLET START() BE $( LET a = 1\n WHILE a DO $( SWITCHON a INTO $( CASE 1: " + one + "\n" + other + "\n L: $) $) $)";
                Check.good(all);
                // In one line ( and ! would go on with what is ahead of them.
                if (!other.startsWith("(") && !other.startsWith("!")) {
                    Check.due("no ; without a line's end", Check.compiled(all.replace(one + "\n" + other, one + " " + other)).startsWith("ok"), false);
                }
            }
        }
        Check.fault("LET START() BE $( LET a = 1\n a := 1\n ^@a := 1 $)", 6);
        Check.fault("LET START() BE $( LET a = 1\n a := 1\n ^VALOF RETURN := 1 $)", 6);
        // A place for each of the others: the token behind.
        Check.fault("LET START() BE WRITEN(START\n^!1)", 2);
        Check.fault("LET START() BE WRITEN(1\n^(2))", 2);
        Check.fault("LET START() BE WRITEN(1\n^@START)", 2);
        Check.fault("LET START() BE WRITEN(1\n^TABLE 1)", 2);
        Check.fault("LET START() BE WRITEN(1\n^VALOF F())", 2);
        Check.fault("LET START() BE WRITEN(1\n^RESULTIS 1)", 2);
        Check.fault("LET START() BE WRITEN(1\n ^\"a\")", 2);
        Check.fault("LET START() BE IF 1\n ^$( $)", 2);
        Check.fault("GLOBAL $( A: 1\n^MANIFEST $( B = 1 $) $)", 2);
        // None is understood ahead of signs, or behind a token that can't end a C.
        Check.prints(value("1\n+\n2\n*\n3"), "7");
        Check.prints(value("1\n->\n2\n,\n3"), "2");
        Check.prints(value("1\n) //"), "1");
        Check.prints(value("6\n%0 = 7"), "0");
        Check.prints("LET START() BE IF TRUE\nTHEN WRITEN(1)", "1");
        Check.prints("LET START() BE TEST FALSE THEN WRITEN(1)\nELSE WRITEN(2)", "2");
        Check.prints("LET START() BE $( WRITEN(1)\n $) REPEATUNTIL\nTRUE", "1");
        Check.prints("LET START() BE $( LET a = 1; $( WRITEN(1); a := 0 $)\nREPEATWHILE a $)", "1");
        Check.fault("LET START() BE LET\n^A() = 1", 2, 15);
        // Comments and empty lines between.
        Check.prints("LET START() BE $(\n WRITEN(1) // one\n\n // two\n WRITEN(2) $)", "12");
        Check.prints("LET START() BE $( WRITEN(1);\n WRITEN(2);\n\n WRITEN(3); $);", "123");
        Check.fault("LET START() BE WRITEN(1);^;", 2);
        Check.good("LET START() BE WRITEN(1)\n;\n");
    }

    private static void firstFromTheLeft() {
        Check.fault("LET START() BE ^) ?", 2);
        Check.fault("LET START() BE ^? )", 1);
        Check.fault("LET START() BE X ^Y \"", 2);
        Check.fault("LET START() BE X := ^\"", 1);
        Check.fault("LET START() BE X := Y ", 3, 15);
        // What is no token is told ahead of what means nothing.
        Check.fault("LET START() BE X := ^?", 1);
        Check.fault("LET START() BE $( X := 1; ^) $)", 2);
    }
}
