/** What may stand within one another is at most 60: of each kind, within each other kind, the 60th stands and the 61st doesn't (promises 4 and 5). */
public final class NestEdgesTest {
    private static final int MOST = 60;
    private static final String E = "LET F(a) = a; LET START() BE FINISH; LET G(a, b) = ";
    private static final String C = "LET F(a) = a; LET START() BE FINISH; LET G(a, b) BE ";

    // Each row: what stands ahead, the token that counts ("" when it is the first one of what stands within), and what stands behind.
    private static final String[][] E_IN_E = {
        {"(", "(", ")"}, {"F(", "(", ")"}, {"F(1, ", "(", ", 2)"}, {"1 -> ", "->", ", 1"}, {"1 -> 1, ", "->", ""},
        {"VALOF RESULTIS ", "VALOF", ""}, {"TABLE ", "TABLE", ""}, {"TABLE 1, ", "TABLE", ""},
    };
    private static final String[][] C_IN_C = {
        {"$( ", "$(", " $)"}, {"$(A ", "$(", " $)A"}, {"$( LET x = 1; ", "$(", " $)"}, {"$( L: ", "$(", "; LOOP $)"}, {"SWITCHON a INTO $( CASE 1: ", "$(", " $)"},
        {"IF a DO ", "", ""}, {"UNLESS a DO ", "", ""}, {"WHILE a DO ", "", ""}, {"UNTIL a DO ", "", ""}, {"FOR i = 1 TO 2 BY 3 DO ", "", ""},
        {"TEST a THEN ", "", " OR FINISH"}, {"TEST a THEN FINISH OR ", "", ""}, {"b := VALOF ", "VALOF", ""}, {"b, b := 1, VALOF ", "VALOF", ""},
        {"$( LET f() BE ", "$(", " $)"},
    };
    // What stands within an E at its beginning: ahead of its token, that, and what is behind.
    private static final String[][] INMOST_E = {
        {"", "(", "1)"}, {"F", "(", ")"}, {"F", "(", "1, 2)"}, {"1 ", "->", " 1, 1"}, {"", "VALOF", " FINISH"}, {"", "VALOF", " b := 1"}, {"", "TABLE", " 1"},
        {"", "-", "1"}, {"", "+", "1"}, {"", "~", "1"}, {"", "NOT", " 1"}, {"", "!", "1"}, {"", "@", "a"}, {"a", "!", "1"}, {"a", "%", "1"},
        {"1 + ", "-", "1"}, {"1 < ", "!", "1"}, {"1, 2 + a", "!", "1"},
    };
    private static final String[][] INMOST_C = {
        {"", "$(", " $)"}, {"SWITCHON a INTO ", "$(", " $)"}, {"LOOP ", "REPEAT", ""}, {"LOOP ", "REPEATWHILE", " a"}, {"LOOP ", "REPEATUNTIL", " a"},
        {"IF a DO ", "FINISH", ""}, {"UNLESS a ", "FINISH", ""}, {"WHILE a DO ", "BREAK", ""}, {"UNTIL a ", "LOOP", ""}, {"FOR i = 1 TO 2 DO ", "b", " := 1"},
        {"TEST a THEN ", "FINISH", " OR FINISH"}, {"b := ", "VALOF", " FINISH"}, {"b := ", "-", "1"}, {"F", "(", "1)"}, {"b := a", "!", "1"}, {"a", "%", "1 := 1"},
        {"", "!", "a := 1"}, {"", "(", "a) := 1"}, {"FOR i = ", "-", "1 TO 2 DO"}, {"FOR i = 1 TO ", "-", "1 DO"}, {"FOR i = 1 TO 2 BY ", "-", "1 DO"}, {"IF ", "-", "1 DO"},
        {"RESULTIS ", "-", "1"}, {"SWITCHON ", "-", "1 INTO"},
    };

    public static void main(String[] args) {
        withinExpressions();
        withinCommands();
        signsAhead();
        theWholeRow();
        behindOneAnother();
        links();
        repeats();
        declarations();
        noNests();
        Check.end();
    }

    /** Asks for 59 parts and a last one, and for 60 and a last one, whose token is the one that can't stand. */
    private static void edge(String head, String[] part, String[] last, String foot) {
        Check.stands(head + Check.times(part[0], MOST - 1) + last[0] + last[1] + last[2] + foot + Check.times(part[2], MOST - 1));
        String ahead = head + Check.times(part[0], MOST) + last[0];
        Check.fault(ahead + last[1] + last[2] + foot + Check.times(part[2], MOST), 2, ahead.length());
    }

    private static void withinExpressions() {
        for (String[] part : E_IN_E) {
            for (String[] last : INMOST_E) {
                // A list of K's or arguments alone takes a , ; a table takes all that come.
                boolean isList = part[0].startsWith("F(") || part[0].startsWith("TABLE");
                boolean takesTheComma = part[0].equals("1 -> ") && last[1].equals("TABLE");
                if (!takesTheComma && (isList || !last[0].startsWith("1, "))) {
                    edge(E, part, last, "");
                }
            }
        }
    }

    private static void withinCommands() {
        for (String[] part : C_IN_C) {
            boolean opensAtToken = !part[1].isEmpty();
            for (String[] last : INMOST_C) {
                String rest = last[2];
                String foot = rest.endsWith(" DO") ? " FINISH" : rest.endsWith(" INTO") ? " $( $)" : "";
                edge(C, part, last, foot);
                if (!opensAtToken) {
                    innerFirst(part, last, foot);
                }
            }
        }
    }

    /** A C in a C counts at its own first token, ahead of all that it has within. */
    private static void innerFirst(String[] part, String[] last, String foot) {
        String ahead = C + Check.times(part[0], MOST + 1);
        int place = part[0].contains("FINISH") ? ahead.lastIndexOf("FINISH") : ahead.length();
        Check.fault(ahead + last[0] + last[1] + last[2] + foot + Check.times(part[2], MOST + 1), 2, place);
    }

    /** Signs ahead of an E8 or E9. */
    private static void signsAhead() {
        String[] loose = {"-", "+", "~", "NOT "};
        String[] tight = {"!", "@"};
        for (String one : loose) {
            Check.stands(E + Check.times(one, MOST) + "a");
            Check.fault(E + Check.times(one, MOST) + "^" + one + "a", 2);
            for (String other : new String[] {"-", "+", "~", "NOT ", "!", "@", "(", "VALOF ", "TABLE "}) {
                String back = other.equals("(") ? "a)" : other.equals("VALOF ") ? "FINISH" : "a";
                Check.stands(E + Check.times(one, MOST - 1) + other + back);
                Check.fault(E + Check.times(one, MOST) + "^" + other + back, 2);
            }
            Check.stands(E + Check.times(one, MOST - 1) + "F(1)");
            Check.fault(E + Check.times(one, MOST) + "F^(1)", 2);
            Check.stands(E + Check.times(one, MOST - 1) + "a!1");
            Check.fault(E + Check.times(one, MOST) + "a^!1", 2);
            Check.fault(E + Check.times(one, MOST) + "a^%1", 2);
            // Signs between two are none of them, and those ahead of another E8 count anew.
            Check.stands(E + Check.times(one, MOST) + "a" + Check.times(" + " + Check.times(one, MOST) + "a", 3));
            Check.stands(E + Check.times(one, MOST) + "a -> " + Check.times(one, MOST - 1) + "a, " + Check.times(one, MOST - 1) + "a");
            Check.fault(E + "a -> " + Check.times(one, MOST - 1) + "^" + one + "a, a", 2);
            Check.fault(E + "a -> a, " + Check.times(one, MOST - 1) + "^" + one + "a", 2);
        }
        for (String one : tight) {
            Check.stands(E + Check.times(one, MOST) + "a");
            Check.fault(E + Check.times(one, MOST) + "^" + one + "a", 2);
            for (String other : new String[] {"!", "@", "(", "VALOF ", "TABLE "}) {
                String back = other.equals("(") ? "a)" : other.equals("VALOF ") ? "FINISH" : "a";
                Check.stands(E + Check.times(one, MOST - 1) + other + back);
                Check.fault(E + Check.times(one, MOST) + "^" + other + back, 2);
            }
            Check.stands(E + Check.times(one, MOST - 1) + "a!1");
            Check.fault(E + Check.times(one, MOST) + "a^!1", 2);
            Check.stands(E + Check.times(one, MOST) + "a" + Check.times(" + " + Check.times(one, MOST) + "a", 3));
        }
    }

    /** All kinds in one row: each counts one. */
    private static void theWholeRow() {
        String row = "(F(1 -> VALOF TEST a THEN $( IF a RESULTIS TABLE -!a!(";
        // ( ( -> VALOF C $( C TABLE - ! ! ( are twelve.
        String back = ") $) OR FINISH, 1))";
        Check.stands(E + row + Check.times("(", MOST - 12) + "1" + Check.times(")", MOST - 12) + back);
        Check.fault(E + row + Check.times("(", MOST - 12) + "^(1)" + Check.times(")", MOST - 12) + back, 2);
        Check.stands(E + Check.times("(", MOST - 12) + row + "1" + back + Check.times(")", MOST - 12));
        Check.fault(E + Check.times("(", MOST - 11) + row.substring(0, row.length() - 1) + "^(1" + back + Check.times(")", MOST - 11), 2);
    }

    /** What has ended is around nothing: behind many of one kind there is still room for 60, and for no more. */
    private static void behindOneAnother() {
        for (String[] part : E_IN_E) {
            String one = "b := " + part[0] + "1" + part[2] + "; ";
            roomBehind(Check.times(one, 61));
            roomBehind("b := (" + part[0] + "1" + part[2] + ")" + Check.times(" + (" + part[0] + "1" + part[2] + ")", 61) + "; ");
        }
        for (String[] part : C_IN_C) {
            roomBehind(Check.times(part[0] + "F(1)" + part[2] + "; ", 61));
        }
        for (String[] last : INMOST_E) {
            if (!last[0].startsWith("1, ")) {
                roomBehind(Check.times("b := " + last[0] + last[1] + last[2] + "; ", 61));
            }
        }
        roomBehind(Check.times("F(1) REPEATWHILE a REPEAT REPEATUNTIL b; ", 61));
        roomBehind(Check.times("TEST a THEN F(1) OR F(2); ", 61));
        roomBehind(Check.times("a!!b!1 := 1; ", 61));
        roomBehind(Check.times("$(A $(B $(C F(1) $)A; ", 61));
        roomBehind(Check.times("SWITCHON a INTO $( CASE (1): CASE -(2): F(1); DEFAULT: $); ", 61));
    }

    private static void roomBehind(String commands) {
        String head = C + "$( " + commands + "b := ";
        Check.stands(head + Check.times("(", MOST - 1) + "1" + Check.times(")", MOST - 1) + " $)");
        Check.fault(head + Check.times("(", MOST - 1) + "^(1)" + Check.times(")", MOST - 1) + " $)", 2);
    }

    /** "the ! % or ( one behind the other in an E9 (with the ! and @ that stand ahead of what is behind one of these, up to that E9's end)". */
    private static void links() {
        for (String one : new String[] {"!1", "%1", "(1)", "()"}) {
            for (String other : new String[] {"!1", "%1", "(1)", "()"}) {
                Check.stands(E + "a" + Check.times(one, MOST - 1) + other);
                Check.fault(E + "a" + Check.times(one, MOST) + "^" + other, 2);
                Check.stands(E + "a" + other + Check.times(one, MOST - 1));
                Check.fault(E + "a" + other + Check.times(one, MOST - 1) + "^" + one, 2);
                // Each E9 counts for itself.
                Check.stands(E + "a" + Check.times(one, MOST) + " + a" + Check.times(other, MOST) + " < a" + Check.times(one, MOST));
                Check.stands(E + "F(a" + Check.times(one, MOST - 1) + ", a" + Check.times(other, MOST - 1) + ")");
                Check.fault(E + "F(a" + Check.times(one, MOST - 1) + ", a" + Check.times(other, MOST - 1) + "^" + one + ")", 2);
                // What ended ahead of a link is not around it.
                Check.stands(E + "((a" + Check.times(one, MOST - 2) + "))" + Check.times(other, MOST));
                Check.fault(E + "((a" + Check.times(one, MOST - 2) + "))" + Check.times(other, MOST) + "^" + other, 2);
                Check.stands(E + "VALOF $( F(a" + Check.times(one, MOST - 4) + ") $)" + Check.times(other, MOST));
            }
            for (String sign : new String[] {"!", "@"}) {
                Check.stands(E + "a!" + sign + "1" + Check.times(one, MOST - 2));
                Check.fault(E + "a!" + sign + "1" + Check.times(one, MOST - 2) + "^" + one, 2);
                Check.stands(E + "a%" + Check.times(sign, MOST - 1) + "1");
                Check.fault(E + "a%" + Check.times(sign, MOST - 1) + "^" + sign + "1", 2);
                Check.fault(E + "a%" + Check.times(sign, MOST - 1) + "1^" + one, 2);
                Check.stands(E + "a" + Check.times(one, MOST - 2) + "!" + sign + "1");
                Check.fault(E + "a" + Check.times(one, MOST - 1) + "!^" + sign + "1", 2);
                // At the E9's end they end, too.
                Check.stands(E + "a%" + Check.times(sign, MOST - 1) + "1 + a%" + Check.times(sign, MOST - 1) + "1");
            }
        }
    }

    /** "REPEATs behind a C". */
    private static void repeats() {
        String[] kinds = {"REPEAT", "REPEATWHILE a", "REPEATUNTIL a"};
        for (String one : kinds) {
            for (String other : kinds) {
                Check.stands(C + "F(1)" + Check.times(" " + one, MOST - 1) + " " + other);
                Check.fault(C + "F(1)" + Check.times(" " + one, MOST) + " ^" + other, 2);
                Check.stands(C + "$( F(1)" + Check.times(" " + one, MOST - 1) + " $)" + Check.times(" " + other, MOST));
                Check.fault(C + "$( F(1)" + Check.times(" " + one, MOST - 1) + " ^" + other + " $)", 2);
                Check.stands(C + "IF a DO F(1)" + Check.times(" " + one, MOST - 1));
                Check.fault(C + "IF a DO F(1)" + Check.times(" " + one, MOST - 1) + " ^" + other, 2);
            }
            Check.stands(C + Check.times("$( ", MOST) + "FINISH" + Check.times(" $) " + one, MOST));
        }
    }

    /** The $( of GLOBAL, MANIFEST and STATIC count; what stands in their K's is within. */
    private static void declarations() {
        for (String kind : new String[] {"GLOBAL", "MANIFEST", "STATIC"}) {
            String sign = kind.equals("GLOBAL") ? ": " : " = ";
            Check.stands(C + Check.times("$( ", MOST - 1) + kind + " $( A" + sign + "1 $)" + Check.times(" $)", MOST - 1));
            Check.fault(C + Check.times("$( ", MOST) + kind + " ^$( A" + sign + "1 $)" + Check.times(" $)", MOST), 2);
            String k = Check.times("(", MOST - 1) + "1" + Check.times(")", MOST - 1);
            Check.good(kind + " $( A" + sign + k + "; B" + sign + k + " $); LET START() BE FINISH");
            Check.fault(kind + " $( A" + sign + k + "; B" + sign + Check.times("(", MOST - 1) + "^" + k + " $)", 2);
            roomBehind("$( " + kind + " $( A" + sign + "(1) $); " + Check.times("F(1); ", 3) + "$); ");
        }
        Check.good(C + "$( LET v = VEC " + Check.times("(", MOST - 1) + "1" + Check.times(")", MOST - 1) + " $)");
        Check.fault(C + "$( LET v = VEC " + Check.times("(", MOST - 1) + "^(1)" + Check.times(")", MOST - 1) + " $)", 2);
        Check.good(C + "FOR i = 1 TO 2 BY " + Check.times("(", MOST) + "1" + Check.times(")", MOST) + " DO FINISH");
        Check.fault(C + "FOR i = 1 TO 2 BY " + Check.times("(", MOST) + "^(1)" + Check.times(")", MOST) + " DO FINISH", 2);
        Check.good(C + "SWITCHON a INTO $( CASE " + Check.times("(", MOST - 1) + "1" + Check.times(")", MOST - 1) + ": $)");
        Check.fault(C + "SWITCHON a INTO $( CASE " + Check.times("(", MOST - 1) + "^(1)" + Check.times(")", MOST - 1) + ": $)", 2);
    }

    /** A parameter list's ( , routines, labels, cases, and the E's of what is asked or counted are no nests. */
    private static void noNests() {
        String sixty = Check.times("(", MOST) + "1" + Check.times(")", MOST);
        String less = Check.times("(", MOST - 1) + "1" + Check.times(")", MOST - 1);
        Check.good("LET START(a, b) = " + sixty);
        Check.good("LET START() = 1 AND F(a) = " + sixty + " AND G(a) = " + sixty);
        Check.good(C + "$( LET f(a, b) = " + less + "; f(1) $)");
        Check.fault(C + "$( LET f(a, b) = " + Check.times("(", MOST - 1) + "^(1)" + Check.times(")", MOST - 1) + " $)", 2);
        for (String asked : new String[] {"IF # DO FINISH", "UNLESS # DO FINISH", "TEST # THEN FINISH OR FINISH", "WHILE # DO FINISH", "UNTIL # DO FINISH",
            "FOR i = # TO # BY # DO FINISH", "SWITCHON # INTO $( $)", "b := #", "b, b := 1, #", "!b := #"}) {
            Check.good(C + asked.replace("#", sixty));
            Check.fault(C + asked.replace("#", "(" + sixty + ")"), 2, (C + asked).indexOf('#') + MOST);
        }
        Check.good(C + "$( L: M: N: b := " + less + " $)");
        Check.good(C + "SWITCHON a INTO $( CASE 1: CASE 2: DEFAULT: L: b := " + less + " $)");
    }
}
