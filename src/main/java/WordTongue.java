import java.util.Arrays;
import java.util.NoSuchElementException;

/** A language of words alone: texts are compiled, and run under fuel. */
public final class WordTongue {
    public static final int NONE = -1;

    /** The bound of loops whose own end comes far earlier. */
    private static final int MANY = 1000000;

    private static final int TAPE_MOST = 6000;
    private static final int NAME_MOST = 40;
    private static final int STRING_MOST = 200;
    private static final int LIST_MOST = 20;
    private static final int NEST_MOST = 60;
    private static final int GLOBALS = 100;
    private static final int WORDS_MOST = 1500;
    private static final int ROUTINES_MOST = 200;
    private static final int FRAME_MOST = 32000;
    private static final int VEC_MOST = 30000;
    private static final int FUEL_MOST = 100000;
    private static final int CALLS_MOST = 100;
    private static final int VECTORS_MOST = 100;
    private static final int OUTPUT_MOST = 4096;
    private static final int FIRST_STORE = 4096;
    private static final int LAST_STORE = 65536;
    private static final int TEXT_ENTRY = 1000000;
    private static final int LIBRARY_ENTRY = 2000000;

    // The keywords stand in the order of their kinds below: those that may begin behind an understood ; first.
    private static final String STARTERS = "TRUE FALSE VALOF TABLE IF UNLESS TEST WHILE UNTIL FOR SWITCHON CASE DEFAULT BREAK LOOP ENDCASE RETURN RESULTIS FINISH GOTO LET GLOBAL MANIFEST STATIC ";
    private static final String OTHERS = "GET AND BE VEC THEN DO OR ELSE TO BY INTO REPEAT REPEATWHILE REPEATUNTIL EQV NEQV REM NOT ";
    private static final String LIBRARY_NAMES = "WRITEN WRITES WRCH NEWLINE RDCH STOP ABS UNRDCH SELECTINPUT SELECTOUTPUT REWIND GETVEC FREEVEC APTOVEC MULDIV WRITED WRITEHEX READN ";
    private static final String START_NAME = "START ";

    // Kinds of tokens.
    private static final int END = 0;
    private static final int BAD = 1;
    private static final int NAME = 2;
    private static final int NUMBER = 3;
    private static final int STRING = 4;
    private static final int OPEN = 5;
    private static final int CLOSE = 6;
    private static final int LEFT = 7;
    private static final int RIGHT = 8;
    private static final int COMMA = 9;
    private static final int SEMI = 10;
    private static final int BECOMES = 11;
    private static final int COLON = 12;
    private static final int BANG = 13;
    private static final int PERCENT = 14;
    private static final int AT = 15;
    private static final int PLUS = 16;
    private static final int MINUS = 17;
    private static final int TIMES = 18;
    private static final int OVER = 19;
    private static final int EQUAL = 20;
    private static final int UNEQUAL = 21;
    private static final int LESS = 22;
    private static final int ATMOST = 23;
    private static final int MORE = 24;
    private static final int ATLEAST = 25;
    private static final int LEFTWARD = 26;
    private static final int RIGHTWARD = 27;
    private static final int TILDE = 28;
    private static final int BOTH = 29;
    private static final int EITHER = 30;
    private static final int ARROW = 31;
    private static final int TRUE = 32;
    private static final int FALSE = 33;
    private static final int VALOF = 34;
    private static final int TABLE = 35;
    private static final int IF = 36;
    private static final int UNLESS = 37;
    private static final int TEST = 38;
    private static final int WHILE = 39;
    private static final int UNTIL = 40;
    private static final int FOR = 41;
    private static final int SWITCHON = 42;
    private static final int CASE = 43;
    private static final int DEFAULT = 44;
    private static final int BREAK = 45;
    private static final int LOOP = 46;
    private static final int ENDCASE = 47;
    private static final int RETURN = 48;
    private static final int RESULTIS = 49;
    private static final int FINISH = 50;
    private static final int GOTO = 51;
    private static final int LET = 52;
    private static final int GLOBAL = 53;
    private static final int MANIFEST = 54;
    private static final int STATIC = 55;
    private static final int AND = 57;
    private static final int BE = 58;
    private static final int VEC = 59;
    private static final int THEN = 60;
    private static final int DO = 61;
    private static final int OR = 62;
    private static final int ELSE = 63;
    private static final int TO = 64;
    private static final int BY = 65;
    private static final int INTO = 66;
    private static final int REPEAT = 67;
    private static final int REPEATUNTIL = 69;
    private static final int EQV = 70;
    private static final int NEQV = 71;
    private static final int REM = 72;
    private static final int NOT = 73;
    private static final int KEYWORDS = 42;
    private static final int LIBRARY_COUNT = 18;
    private static final int START_ID = 60;

    // Kinds of the tree's nodes beside those that bear the kind of their own token.
    private static final int WHOLE = 80;
    private static final int CHOICE = 81;
    private static final int PAREN = 82;
    private static final int CALLS = 83;
    private static final int ARGUMENTS = 84;
    private static final int INDIRECT = 85;
    private static final int ADDRESS = 86;
    private static final int UNARY = 87;
    private static final int SIGN = 88;
    private static final int NOTHING = 89;
    private static final int ASSIGN = 90;
    private static final int CALLING = 91;
    private static final int SECTION = 92;
    private static final int REPEATS = 93;
    private static final int ROUTINES = 94;
    private static final int ROUTINE = 95;
    private static final int FUNCTION = 96;
    private static final int VARIABLES = 97;
    private static final int DEFINITION = 98;
    private static final int LABEL = 99;

    // What a name may mean.
    private static final int A_WORD = 1;
    private static final int A_VARIABLE = 2;
    private static final int A_LABEL = 3;
    private static final int A_MANIFEST = 4;
    private static final int A_LIBRARY = 5;

    // What an expression is worked for.
    private static final int VALUE = 0;
    private static final int PLACE = 1;
    private static final int TARGET = 2;

    // Instructions: each has one operand.
    private static final int OP_CONST = 1;
    private static final int OP_LOCAL = 2;
    private static final int OP_WORD = 3;
    private static final int OP_HERE = 4;
    private static final int OP_PEEK = 5;
    private static final int OP_INDEX = 6;
    private static final int OP_BYTE = 7;
    private static final int OP_NEG = 8;
    private static final int OP_NOT = 9;
    private static final int OP_SAVE = 10;
    private static final int OP_POKE = 11;
    private static final int OP_POKEBYTE = 12;
    private static final int OP_POP = 13;
    private static final int OP_JUMP = 14;
    private static final int OP_IFNOT = 15;
    private static final int OP_IF = 16;
    private static final int OP_CASE = 17;
    private static final int OP_BURN = 18;
    private static final int OP_CALL = 19;
    private static final int OP_BACK = 20;
    private static final int OP_FINISH = 21;
    private static final int OP_SIGN = 100;
    private static final int OP_LINK = 200;

    private final Ints tape = new Ints(TAPE_MOST);
    private final Program program = new Program();
    private final Tree tree = new Tree();
    private final Scanner scanner = new Scanner(tape);
    private final Parser parser = new Parser(scanner, tree, program);
    private final Coder coder = new Coder(tree, program);
    private final Channels channels = new Channels();
    private final Machine machine = new Machine(program, channels);
    private int storeWords = FIRST_STORE;
    private int goodWords = FIRST_STORE;

    public WordTongue() {
    }

    public boolean feed(int a, int b, int c, int d, int e) {
        if (tape.size() + 20 > TAPE_MOST) {
            return false;
        }
        addBytes(a);
        addBytes(b);
        addBytes(c);
        addBytes(d);
        addBytes(e);
        return true;
    }

    private void addBytes(int four) {
        for (int shift = 24; shift >= 0; shift -= 8) {
            tape.add(four >>> shift & 255);
        }
    }

    public boolean end(int n) {
        if (n < 0 || n > tape.size()) {
            return false;
        }
        tape.cut(n);
        return true;
    }

    public int compile() {
        program.clear(storeWords);
        scanner.scan();
        if (parser.reads()) {
            coder.translate(parser.root());
        }
        program.judge();
        tape.cut(0);
        if (program.faultKind() != 0) {
            return -1 - program.faultPlace();
        }
        goodWords = storeWords;
        return program.words();
    }

    public int fault() {
        return program.faultKind();
    }

    public boolean store(int words) {
        if (words < FIRST_STORE || words > LAST_STORE || Integer.bitCount(words) != 1) {
            return false;
        }
        storeWords = words;
        return true;
    }

    public int input(int k) {
        int count = channels.take(k, tape);
        tape.cut(0);
        return count;
    }

    public int run(int fuel) {
        if (!program.isReady() || fuel < 0 || fuel > FUEL_MOST) {
            return NONE;
        }
        return machine.go(fuel);
    }

    public int value() {
        return machine.told();
    }

    public int out(int k) {
        return channels.length(k);
    }

    public int outAt(int k, int i) throws NoSuchElementException {
        if (i < 0 || i >= channels.length(k)) {
            throw new NoSuchElementException();
        }
        return channels.byteAt(k, i);
    }

    public int word(int address) throws NoSuchElementException {
        if (address < 0 || address >= goodWords) {
            throw new NoSuchElementException();
        }
        return machine.left(address);
    }

    public int fuel() {
        return machine.fuelLeft();
    }

    /** A sign between two words that is no relation, worked; a division by 0 is 0 here, for the asker has looked before. */
    private static int worked(int sign, int a, int b) {
        switch (sign) {
            case PLUS:
                return a + b;
            case MINUS:
                return a - b;
            case TIMES:
                return a * b;
            case OVER:
                return b == 0 ? 0 : a / b;
            case REM:
                return b == 0 ? 0 : a % b;
            case LEFTWARD:
                return b < 0 || b > 31 ? 0 : a << b;
            case RIGHTWARD:
                return b < 0 || b > 31 ? 0 : a >>> b;
            case BOTH:
                return a & b;
            case EITHER:
                return a | b;
            case EQV:
                return ~(a ^ b);
            default:
                return a ^ b;
        }
    }

    private static boolean holds(int relation, int a, int b) {
        switch (relation) {
            case EQUAL:
                return a == b;
            case UNEQUAL:
                return a != b;
            case LESS:
                return a < b;
            case ATMOST:
                return a <= b;
            case MORE:
                return a > b;
            default:
                return a >= b;
        }
    }

    /** How narrowly a sign between two binds: 0 for a token that is none. */
    private static int power(int sign) {
        switch (sign) {
            case EQV:
            case NEQV:
                return 1;
            case EITHER:
                return 2;
            case BOTH:
                return 3;
            case LEFTWARD:
            case RIGHTWARD:
                return 4;
            case PLUS:
            case MINUS:
                return 6;
            case TIMES:
            case OVER:
            case REM:
                return 7;
            default:
                return isRelation(sign) ? 5 : 0;
        }
    }

    private static boolean isRelation(int sign) {
        return sign >= EQUAL && sign <= ATLEAST;
    }

    private static boolean isDivision(int sign) {
        return sign == OVER || sign == REM;
    }

    /** A row of ints that grows up to a bound, and that no index can hurt. */
    private static final class Ints {
        private final int most;
        private int[] cells = new int[16];
        private int size = 0;

        Ints(int most) {
            this.most = most;
        }

        int size() {
            return size;
        }

        int get(int i) {
            return i >= 0 && i < size && i < cells.length ? cells[i] : 0;
        }

        void set(int i, int value) {
            if (i >= 0 && i < size && i < cells.length) {
                cells[i] = value;
            }
        }

        void add(int value) {
            if (size >= most) {
                return;
            }
            if (size >= cells.length) {
                cells = Arrays.copyOf(cells, Math.max(16, Math.min(most, size * 2)));
            }
            if (size >= 0 && size < cells.length) {
                cells[size] = value;
                size++;
            }
        }

        int top() {
            return get(size - 1);
        }

        int pop() {
            if (size <= 0 || size > cells.length) {
                return 0;
            }
            size--;
            return cells[size];
        }

        /** Leaves the first ones alone. */
        void cut(int length) {
            if (length >= 0 && length < size) {
                size = length;
            }
        }

        void copyFrom(Ints other) {
            cut(0);
            for (int i = 0; i < other.size(); i++) {
                add(other.get(i));
            }
        }
    }

    /** Parts the tape into tokens, with the ; that are understood; a BAD one ends the row. */
    private static final class Scanner {
        private final Ints text;
        private final Ints kinds = new Ints(MANY);
        private final Ints infos = new Ints(MANY);
        private final Ints places = new Ints(MANY);
        private final Ints strings = new Ints(MANY);
        private final Ints letters = new Ints(MANY);
        private final Ints heads = new Ints(MANY);
        private final Ints sums = new Ints(MANY);
        private final int knownLetters;
        private int at = 0;
        private boolean fresh = false;

        Scanner(Ints text) {
            this.text = text;
            know(STARTERS);
            know(OTHERS);
            know(LIBRARY_NAMES);
            know(START_NAME);
            knownLetters = letters.size();
        }

        private void know(String names) {
            Ints row = new Ints(MANY);
            for (int i = 0; i < names.length(); i++) {
                if (names.charAt(i) == ' ') {
                    idOf(row, 0, row.size());
                    row.cut(0);
                } else {
                    row.add(names.charAt(i));
                }
            }
        }

        /** The number of a name, or of a tag: that of the same letters met before, or a new one. */
        private int idOf(Ints row, int from, int to) {
            int sum = to - from;
            for (int i = from; i < to; i++) {
                sum = sum * 31 + row.get(i);
            }
            for (int id = 0; id < sums.size(); id++) {
                if (sums.get(id) == sum && isAlike(id, row, from, to)) {
                    return id;
                }
            }
            heads.add(letters.size());
            sums.add(sum);
            for (int i = from; i < to; i++) {
                letters.add(row.get(i));
            }
            return sums.size() - 1;
        }

        private boolean isAlike(int id, Ints row, int from, int to) {
            int head = heads.get(id);
            int behind = id + 1 < heads.size() ? heads.get(id + 1) : letters.size();
            if (behind - head != to - from) {
                return false;
            }
            for (int i = 0; i < to - from; i++) {
                if (letters.get(head + i) != row.get(from + i)) {
                    return false;
                }
            }
            return true;
        }

        Ints kinds() {
            return kinds;
        }

        Ints infos() {
            return infos;
        }

        Ints places() {
            return places;
        }

        Ints strings() {
            return strings;
        }

        void scan() {
            kinds.cut(0);
            infos.cut(0);
            places.cut(0);
            strings.cut(0);
            letters.cut(knownLetters);
            heads.cut(START_ID + 1);
            sums.cut(START_ID + 1);
            at = 0;
            fresh = false;
            for (int i = 0; i < MANY; i++) {
                pass();
                if (at >= text.size()) {
                    put(END, 0, text.size());
                    return;
                }
                token();
                if (kinds.top() == BAD) {
                    return;
                }
            }
        }

        /** Passes over what parts tokens, and marks when a line ended there. */
        private void pass() {
            for (int i = 0; i <= text.size() && at < text.size(); i++) {
                int c = text.get(at);
                if (c == '/' && text.get(at + 1) == '/') {
                    skipLine();
                } else if (c == 10) {
                    fresh = true;
                    at++;
                } else if (c == 9 || c == 13 || c == 32) {
                    at++;
                } else {
                    return;
                }
            }
        }

        private void skipLine() {
            for (int i = 0; i <= text.size() && at < text.size() && text.get(at) != 10; i++) {
                at++;
            }
        }

        private void put(int kind, int info, int place) {
            if (fresh && mayEnd(kinds.top()) && mayBegin(kind)) {
                kinds.add(SEMI);
                infos.add(0);
                places.add(place);
            }
            fresh = false;
            kinds.add(kind);
            infos.add(info);
            places.add(place);
        }

        private static boolean mayEnd(int kind) {
            switch (kind) {
                case NAME:
                case NUMBER:
                case STRING:
                case CLOSE:
                case RIGHT:
                case TRUE:
                case FALSE:
                case BREAK:
                case LOOP:
                case ENDCASE:
                case RETURN:
                case FINISH:
                    return true;
                default:
                    return false;
            }
        }

        private static boolean mayBegin(int kind) {
            switch (kind) {
                case NAME:
                case NUMBER:
                case STRING:
                case LEFT:
                case BANG:
                case AT:
                case OPEN:
                    return true;
                default:
                    return kind >= TRUE && kind <= STATIC;
            }
        }

        private void token() {
            int place = at;
            int c = text.get(at);
            if (isLetter(c)) {
                name(place);
            } else if (isDigit(c)) {
                number(place, at, 10);
            } else if (c == '#') {
                boolean hex = text.get(at + 1) == 'X';
                number(place, hex ? at + 2 : at + 1, hex ? 16 : 8);
            } else if (c == '\'') {
                at++;
                int value = quoted('\'');
                put(value >= 0 && text.get(at) == '\'' ? NUMBER : BAD, value, place);
                at++;
            } else if (c == '"') {
                string(place);
            } else if (c == '$') {
                section(place);
            } else {
                sign(place, c);
            }
        }

        private static boolean isLetter(int c) {
            return c >= 'A' && c <= 'Z' || c >= 'a' && c <= 'z';
        }

        private static boolean isDigit(int c) {
            return c >= '0' && c <= '9';
        }

        private static boolean isRest(int c) {
            return isLetter(c) || isDigit(c) || c == '.' || c == '_';
        }

        private int restEnd(int from) {
            int i = from;
            while (i < text.size() && isRest(text.get(i))) {
                i++;
            }
            return i;
        }

        private void name(int place) {
            at = restEnd(place);
            if (at - place > NAME_MOST) {
                put(BAD, 0, place);
                return;
            }
            int id = idOf(text, place, at);
            if (id >= KEYWORDS) {
                put(NAME, id, place);
                return;
            }
            int kind = TRUE + id;
            put(kind == THEN ? DO : kind == ELSE ? OR : kind == NOT ? TILDE : kind, 0, place);
        }

        private static int digitOf(int c) {
            return isDigit(c) ? c - '0' : c >= 'A' && c <= 'F' ? c - 'A' + 10 : 99;
        }

        private void number(int place, int from, int radix) {
            long value = 0;
            at = from;
            for (int i = 0; i < text.size() && at < text.size() && digitOf(text.get(at)) < radix; i++) {
                value = Math.min(value * radix + digitOf(text.get(at)), 1L << 40);
                at++;
            }
            put(at > from && value < 1L << 32 ? NUMBER : BAD, (int) value, place);
        }

        /** The byte that stands here between two such quotes: -1 when there is none. */
        private int quoted(int quote) {
            int c = text.get(at);
            at++;
            if (c != '*') {
                return c < 32 || c > 126 || c == quote ? -1 : c;
            }
            int code = text.get(at);
            at++;
            switch (code) {
                case 'N':
                    return 10;
                case 'S':
                    return 32;
                case 'T':
                    return 9;
                case '\'':
                case '"':
                case '*':
                    return code;
                default:
                    return -1;
            }
        }

        private void string(int place) {
            int head = strings.size();
            strings.add(0);
            at++;
            int value = 0;
            for (int i = 0; i <= STRING_MOST && value >= 0 && text.get(at) != '"'; i++) {
                value = quoted('"');
                strings.add(value);
            }
            int count = strings.size() - head - 1;
            strings.set(head, count);
            put(value >= 0 && count <= STRING_MOST && text.get(at) == '"' ? STRING : BAD, head, place);
            at++;
        }

        private void section(int place) {
            int c = text.get(at + 1);
            int behind = restEnd(place + 2);
            int tag = behind > place + 2 ? idOf(text, place + 2, behind) + 1 : 0;
            boolean good = (c == '(' || c == ')') && behind - place - 2 <= NAME_MOST;
            put(!good ? BAD : c == '(' ? OPEN : CLOSE, tag, place);
            at = behind;
        }

        private void sign(int place, int c) {
            int both = doubled(c, text.get(at + 1));
            int kind = both != BAD ? both : single(c);
            at += both != BAD ? 2 : 1;
            put(kind, 0, place);
        }

        private static int doubled(int c, int d) {
            switch (c) {
                case ':':
                    return d == '=' ? BECOMES : BAD;
                case '~':
                    return d == '=' ? UNEQUAL : BAD;
                case '<':
                    return d == '=' ? ATMOST : d == '<' ? LEFTWARD : BAD;
                case '>':
                    return d == '=' ? ATLEAST : d == '>' ? RIGHTWARD : BAD;
                case '-':
                    return d == '>' ? ARROW : BAD;
                default:
                    return BAD;
            }
        }

        private static int single(int c) {
            switch (c) {
                case '(':
                    return LEFT;
                case ')':
                    return RIGHT;
                case ',':
                    return COMMA;
                case ';':
                    return SEMI;
                case ':':
                    return COLON;
                case '!':
                    return BANG;
                case '%':
                    return PERCENT;
                case '@':
                    return AT;
                case '+':
                    return PLUS;
                case '-':
                    return MINUS;
                case '*':
                    return TIMES;
                case '/':
                    return OVER;
                case '=':
                    return EQUAL;
                case '<':
                    return LESS;
                case '>':
                    return MORE;
                case '~':
                    return TILDE;
                case '&':
                    return BOTH;
                case '|':
                    return EITHER;
                default:
                    return BAD;
            }
        }
    }

    /** The text's parts: each node has a kind, a place, two numbers, and its parts in order. Node 0 is none. */
    private static final class Tree {
        private final Ints kinds = new Ints(MANY);
        private final Ints places = new Ints(MANY);
        private final Ints datas = new Ints(MANY);
        private final Ints extras = new Ints(MANY);
        private final Ints firsts = new Ints(MANY);
        private final Ints lasts = new Ints(MANY);
        private final Ints nexts = new Ints(MANY);

        void clear() {
            kinds.cut(0);
            places.cut(0);
            datas.cut(0);
            extras.cut(0);
            firsts.cut(0);
            lasts.cut(0);
            nexts.cut(0);
            node(0, 0, 0);
        }

        int node(int kind, int place, int data) {
            kinds.add(kind);
            places.add(place);
            datas.add(data);
            extras.add(0);
            firsts.add(0);
            lasts.add(0);
            nexts.add(0);
            return kinds.size() - 1;
        }

        void hang(int parent, int child) {
            if (firsts.get(parent) == 0) {
                firsts.set(parent, child);
            } else {
                nexts.set(lasts.get(parent), child);
            }
            lasts.set(parent, child);
        }

        int kind(int node) {
            return kinds.get(node);
        }

        int place(int node) {
            return places.get(node);
        }

        int data(int node) {
            return datas.get(node);
        }

        int extra(int node) {
            return extras.get(node);
        }

        int first(int node) {
            return firsts.get(node);
        }

        int last(int node) {
            return lasts.get(node);
        }

        int next(int node) {
            return nexts.get(node);
        }

        void setKind(int node, int kind) {
            kinds.set(node, kind);
        }

        void setData(int node, int data) {
            datas.set(node, data);
        }

        void setExtra(int node, int extra) {
            extras.set(node, extra);
        }
    }

    /** What a compiling leaves: code, the first words of the store, the routines, and the fault. */
    private static final class Program {
        private final Ints code = new Ints(MANY);
        private final Ints image = new Ints(MANY);
        private final Ints homes = new Ints(MANY);
        private final Ints starts = new Ints(MANY);
        private final Ints frames = new Ints(MANY);
        private final Ints params = new Ints(MANY);
        private int storeWords = FIRST_STORE;
        private int starter = NONE;
        private int kind = 0;
        private int place = 0;
        private boolean ready = false;

        void clear(int words) {
            code.cut(0);
            image.cut(0);
            homes.cut(0);
            starts.cut(0);
            frames.cut(0);
            params.cut(0);
            for (int i = 0; i < GLOBALS; i++) {
                image.add(0);
            }
            emit(0, 0);
            storeWords = words;
            starter = NONE;
            kind = 0;
            place = 0;
            ready = false;
        }

        /** Keeps the fault at the least place, and of one place the lowest. */
        void blame(int newKind, int newPlace) {
            boolean ahead = newPlace < place || newPlace == place && newKind < kind;
            if (kind == 0 || ahead) {
                kind = newKind;
                place = newPlace;
            }
        }

        /** Ends a compiling: fault 7 is asked for when there is no other. */
        void judge() {
            boolean large = words() - GLOBALS > WORDS_MOST || homes.size() > ROUTINES_MOST;
            for (int i = 0; i < frames.size(); i++) {
                large = large || frames.get(i) > FRAME_MOST;
            }
            if (kind == 0 && (large || starter < 0)) {
                blame(7, 0);
            }
            ready = kind == 0;
        }

        boolean isReady() {
            return ready;
        }

        int faultKind() {
            return kind;
        }

        int faultPlace() {
            return place;
        }

        int storeWords() {
            return storeWords;
        }

        int words() {
            return image.size();
        }

        int wordAt(int address) {
            return image.get(address);
        }

        void setWord(int address, int word) {
            image.set(address, word);
        }

        int addWord(int word) {
            image.add(word);
            return image.size() - 1;
        }

        /** A routine more; one without a word of its own has a global's. */
        int addRoutine(boolean hasWord) {
            int index = homes.size();
            homes.add(hasWord ? addWord(TEXT_ENTRY + index) : NONE);
            starts.add(0);
            frames.add(0);
            params.add(0);
            return index;
        }

        void setStarter(int index) {
            if (starter < 0) {
                starter = index;
            }
        }

        int starter() {
            return starter;
        }

        int routines() {
            return homes.size();
        }

        int home(int index) {
            return homes.get(index);
        }

        int begin(int index) {
            return starts.get(index);
        }

        int frame(int index) {
            return frames.get(index);
        }

        int params(int index) {
            return params.get(index);
        }

        void setBegin(int index, int count) {
            starts.set(index, here());
            params.set(index, count);
        }

        void setFrame(int index, int most) {
            frames.set(index, most);
        }

        /** Adds an instruction, and tells where its operand lies. */
        int emit(int op, int operand) {
            code.add(op);
            code.add(operand);
            return code.size() - 1;
        }

        int here() {
            return code.size();
        }

        int codeAt(int i) {
            return code.get(i);
        }

        void setOperand(int i, int operand) {
            code.set(i, operand);
        }

        /** Sends all jumps of a chain here: each one's operand tells the next one's. */
        void land(int chain) {
            int at = chain;
            for (int i = 0; i < MANY && at > 0; i++) {
                int next = code.get(at);
                code.set(at, here());
                at = next;
            }
        }

        /** Sends all jumps of a chain to a place that is known. */
        void landAt(int chain, int target) {
            int at = chain;
            for (int i = 0; i < MANY && at > 0; i++) {
                int next = code.get(at);
                code.set(at, target);
                at = next;
            }
        }
    }

    /** Reads the tokens into the tree; it asks for their order alone, and gives words and routines their numbers. */
    private static final class Parser {
        private static final int SPREAD = 128;

        private final Ints kinds;
        private final Ints infos;
        private final Ints places;
        private final Ints strings;
        private final Tree tree;
        private final Program program;
        private final Ints tags = new Ints(MANY);
        private final Ints signs = new Ints(MANY);
        private final Ints globals = new Ints(MANY);
        private int at = 0;
        private int depth = 0;
        private int root = 0;

        Parser(Scanner scanner, Tree tree, Program program) {
            kinds = scanner.kinds();
            infos = scanner.infos();
            places = scanner.places();
            strings = scanner.strings();
            this.tree = tree;
            this.program = program;
        }

        int root() {
            return root;
        }

        /** Reads the whole text; false when a token can't stand where it stands. */
        boolean reads() {
            tree.clear();
            tags.cut(0);
            signs.cut(0);
            globals.cut(0);
            at = 0;
            depth = 0;
            try {
                root = text();
                return true;
            } catch (IllegalStateException refused) {
                return false;
            }
        }

        private int kind() {
            return kinds.get(at);
        }

        private int place() {
            return places.get(at);
        }

        private int info() {
            return infos.get(at);
        }

        private void advance() {
            if (kinds.get(at) != END) {
                at++;
            }
        }

        private void refuse() {
            program.blame(kinds.get(at) == BAD ? 1 : 2, places.get(at));
            throw new IllegalStateException("a token can't stand there");
        }

        private void due(int kind) {
            if (kind() != kind) {
                refuse();
            }
            advance();
        }

        private void enter() {
            if (depth >= NEST_MOST) {
                refuse();
            }
            depth++;
        }

        private int nameDue() {
            int id = info();
            due(NAME);
            return id;
        }

        private int leaf(int kind) {
            int node = tree.node(kind, place(), info());
            advance();
            return node;
        }

        private int text() {
            int node = tree.node(SECTION, place(), 0);
            for (int i = 0; i < MANY; i++) {
                tree.hang(node, declaration(true));
                if (kind() == END) {
                    break;
                }
                due(SEMI);
                if (kind() == END) {
                    break;
                }
            }
            return node;
        }

        private int declaration(boolean outermost) {
            int kind = kind();
            if (kind == GLOBAL || kind == MANIFEST || kind == STATIC) {
                return definitions(outermost);
            }
            int node = tree.node(ROUTINES, place(), 0);
            due(LET);
            if (!outermost && kind() == NAME && kinds.get(at + 1) != LEFT) {
                variables(node);
                return node;
            }
            for (int i = 0; i < MANY; i++) {
                tree.hang(node, routine(outermost));
                if (kind() != AND) {
                    break;
                }
                advance();
            }
            return node;
        }

        private int definitions(boolean outermost) {
            int kind = kind();
            int node = leaf(kind);
            open();
            for (int i = 0; i < MANY; i++) {
                int part = tree.node(DEFINITION, place(), nameDue());
                if (kind == GLOBAL && outermost) {
                    globals.add(tree.data(part));
                }
                if (kind == STATIC) {
                    tree.setExtra(part, program.addWord(0));
                }
                due(kind == GLOBAL ? COLON : EQUAL);
                tree.hang(part, expression());
                tree.hang(node, part);
                if (kind() != SEMI) {
                    break;
                }
                advance();
            }
            close();
            return node;
        }

        private void open() {
            if (kind() != OPEN) {
                refuse();
            }
            enter();
            tags.add(info());
            advance();
        }

        /** Ends a section; its $) stays for one around it when that alone has its tag. */
        private void close() {
            if (kind() != CLOSE) {
                refuse();
            }
            int tag = info();
            int own = tags.pop();
            if (tag == 0 || tag == own) {
                advance();
            } else if (!isOpen(tag)) {
                refuse();
            }
            depth--;
        }

        private boolean isOpen(int tag) {
            for (int i = 0; i < tags.size(); i++) {
                if (tags.get(i) == tag) {
                    return true;
                }
            }
            return false;
        }

        private int routine(boolean outermost) {
            int node = tree.node(ROUTINE, place(), nameDue());
            int index = program.addRoutine(!outermost || !isGlobal(tree.data(node)));
            tree.setExtra(node, index);
            if (outermost && tree.data(node) == START_ID) {
                program.setStarter(index);
            }
            due(LEFT);
            if (kind() != RIGHT) {
                names(node);
            }
            due(RIGHT);
            if (kind() == EQUAL) {
                tree.setKind(node, FUNCTION);
                advance();
                tree.hang(node, expression());
            } else {
                due(BE);
                tree.hang(node, command());
            }
            return node;
        }

        private boolean isGlobal(int id) {
            for (int i = 0; i < globals.size(); i++) {
                if (globals.get(i) == id) {
                    return true;
                }
            }
            return false;
        }

        private void names(int node) {
            for (int i = 1; i < MANY; i++) {
                if (kind() != NAME) {
                    refuse();
                }
                tree.hang(node, leaf(NAME));
                if (kind() != COMMA || i == LIST_MOST) {
                    break;
                }
                advance();
            }
        }

        private void variables(int node) {
            tree.setKind(node, VARIABLES);
            int count = 0;
            for (int i = 0; i < MANY; i++) {
                if (kind() != NAME) {
                    refuse();
                }
                tree.hang(node, leaf(NAME));
                count++;
                if (kind() != COMMA) {
                    break;
                }
                advance();
            }
            due(EQUAL);
            for (int i = 0; i < count; i++) {
                if (i > 0) {
                    due(COMMA);
                }
                if (kind() == VEC) {
                    int vector = leaf(VEC);
                    tree.hang(vector, expression());
                    tree.hang(node, vector);
                } else {
                    tree.hang(node, expression());
                }
            }
            tree.setData(node, count);
        }

        /** Reads a section from its $( on; in that of a switch stand cases, in others declarations first. */
        private int section(boolean isSwitch) {
            int node = tree.node(SECTION, place(), 0);
            open();
            boolean declaring = !isSwitch;
            for (int i = 0; i < MANY; i++) {
                declaring = declaring && kind() >= LET && kind() <= STATIC;
                if (declaring) {
                    tree.hang(node, declaration(false));
                } else {
                    if (isSwitch) {
                        cases(node);
                    }
                    labels(node);
                    tree.hang(node, command());
                }
                if (kind() != SEMI) {
                    break;
                }
                advance();
            }
            close();
            return node;
        }

        private void cases(int node) {
            for (int i = 0; i < MANY && (kind() == CASE || kind() == DEFAULT); i++) {
                boolean asks = kind() == CASE;
                int part = leaf(kind());
                if (asks) {
                    tree.hang(part, expression());
                }
                due(COLON);
                tree.hang(node, part);
            }
        }

        private void labels(int node) {
            for (int i = 0; i < MANY && kind() == NAME && kinds.get(at + 1) == COLON; i++) {
                tree.hang(node, leaf(LABEL));
                advance();
            }
        }

        private int command() {
            int node = 0;
            switch (kind()) {
                case SEMI:
                case CLOSE:
                    return tree.node(NOTHING, place(), 0);
                case OPEN:
                    node = section(false);
                    break;
                case IF:
                case UNLESS:
                case TEST:
                case WHILE:
                case UNTIL:
                    node = conditional();
                    break;
                case FOR:
                    node = counting();
                    break;
                case SWITCHON:
                    node = switching();
                    break;
                case BREAK:
                case LOOP:
                case ENDCASE:
                case RETURN:
                case FINISH:
                    node = leaf(kind());
                    break;
                case RESULTIS:
                    node = leaf(RESULTIS);
                    tree.hang(node, expression());
                    break;
                case GOTO:
                    advance();
                    node = tree.node(GOTO, place(), nameDue());
                    break;
                default:
                    node = assignment();
                    break;
            }
            return isRepeat(kind()) ? repeats(node) : node;
        }

        private static boolean isRepeat(int kind) {
            return kind >= REPEAT && kind <= REPEATUNTIL;
        }

        private int repeats(int body) {
            int node = tree.node(REPEATS, tree.place(body), 0);
            tree.hang(node, body);
            int before = depth;
            for (int i = 0; i < MANY && isRepeat(kind()); i++) {
                enter();
                int round = leaf(kind());
                if (tree.kind(round) != REPEAT) {
                    tree.hang(round, expression());
                }
                tree.hang(node, round);
            }
            depth = before;
            return node;
        }

        private int conditional() {
            int node = leaf(kind());
            tree.hang(node, expression());
            passDo();
            enter();
            tree.hang(node, command());
            depth--;
            if (tree.kind(node) == TEST) {
                due(OR);
                enter();
                tree.hang(node, command());
                depth--;
            }
            return node;
        }

        private void passDo() {
            int kind = kind();
            boolean begins = kind >= IF && kind <= GOTO && kind != CASE && kind != DEFAULT;
            if (kind == DO) {
                advance();
            } else if (kind != OPEN && !begins) {
                refuse();
            }
        }

        private int counting() {
            int node = leaf(FOR);
            tree.setData(node, nameDue());
            due(EQUAL);
            tree.hang(node, expression());
            due(TO);
            tree.hang(node, expression());
            if (kind() == BY) {
                advance();
                tree.setExtra(node, expression());
            }
            passDo();
            enter();
            tree.hang(node, command());
            depth--;
            return node;
        }

        private int switching() {
            int node = leaf(SWITCHON);
            tree.hang(node, expression());
            due(INTO);
            tree.hang(node, section(true));
            return node;
        }

        private int assignment() {
            int node = tree.node(ASSIGN, place(), 0);
            tree.hang(node, expression());
            if (kind() != COMMA && kind() != BECOMES && isCall(tree.first(node))) {
                tree.setKind(node, CALLING);
                return node;
            }
            int count = 1;
            for (int i = 0; i < MANY && kind() == COMMA; i++) {
                advance();
                tree.hang(node, expression());
                count++;
            }
            due(BECOMES);
            for (int i = 0; i < count; i++) {
                if (i > 0) {
                    due(COMMA);
                }
                tree.hang(node, expression());
            }
            tree.setData(node, count);
            return node;
        }

        private boolean isCall(int whole) {
            int item = tree.first(whole);
            return tree.kind(item) == CALLS && tree.next(item) == 0;
        }

        /** Reads an E: a row of parts, each sign behind its sides. */
        private int expression() {
            int node = tree.node(WHOLE, place(), 0);
            int base = signs.size();
            for (int i = 0; i < MANY; i++) {
                operand(node);
                int sign = kind();
                settle(node, base, sign);
                if (power(sign) == 0) {
                    break;
                }
                signs.add(place() * SPREAD + sign);
                advance();
            }
            if (kind() != ARROW) {
                return node;
            }
            int choice = tree.node(CHOICE, place(), 0);
            enter();
            advance();
            tree.hang(choice, node);
            tree.hang(choice, expression());
            due(COMMA);
            tree.hang(choice, expression());
            depth--;
            int outer = tree.node(WHOLE, tree.place(node), 0);
            tree.hang(outer, choice);
            return outer;
        }

        /** Puts the signs that bind at least as narrowly as the next one behind their sides. */
        private void settle(int node, int base, int next) {
            for (int i = 0; i < MANY && signs.size() > base; i++) {
                int sign = signs.top() % SPREAD;
                if (power(sign) < power(next)) {
                    return;
                }
                int part = tree.node(SIGN, signs.pop() / SPREAD, sign);
                tree.setExtra(part, isRelation(sign) && isRelation(next) ? 1 : 0);
                tree.hang(node, part);
            }
        }

        /** Reads an E8: its links ! and % count as within one another up to its end. */
        private void operand(int node) {
            int before = depth;
            int base = signs.size();
            passSigns(true);
            int link = 0;
            for (int i = 0; i < MANY; i++) {
                int mark = signs.size();
                if (link != 0) {
                    passSigns(false);
                }
                int part = 0;
                if (kind() == VALOF) {
                    enter();
                    part = leaf(VALOF);
                    tree.hang(part, command());
                    depth--;
                } else {
                    part = primary();
                }
                tree.hang(node, kind() == LEFT ? calls(part) : part);
                hangSigns(node, mark);
                if (link != 0) {
                    tree.hang(node, link);
                }
                if (kind() != BANG && kind() != PERCENT) {
                    break;
                }
                enter();
                link = leaf(kind());
            }
            hangSigns(node, base);
            depth = before;
        }

        /** Keeps the signs ahead of a part for later, each with the place of what stands behind it. */
        private void passSigns(boolean whole) {
            boolean open = whole;
            for (int i = 0; i < MANY; i++) {
                int kind = kind();
                boolean loose = kind == PLUS || kind == MINUS || kind == TILDE;
                boolean tight = kind == BANG || kind == AT;
                if (!tight && !(open && loose)) {
                    return;
                }
                open = open && loose;
                enter();
                int sign = place() * SPREAD + kind;
                advance();
                signs.add(place());
                signs.add(sign);
            }
        }

        private void hangSigns(int node, int base) {
            for (int i = 0; i < MANY && signs.size() > base; i++) {
                int sign = signs.top() % SPREAD;
                int place = signs.pop() / SPREAD;
                int behind = signs.pop();
                int kind = sign == BANG ? INDIRECT : sign == AT ? ADDRESS : UNARY;
                tree.hang(node, tree.node(kind, place, kind == UNARY ? sign : behind));
            }
        }

        private int primary() {
            int node = 0;
            switch (kind()) {
                case NAME:
                case NUMBER:
                    return leaf(kind());
                case TRUE:
                case FALSE:
                    node = tree.node(NUMBER, place(), kind() == TRUE ? -1 : 0);
                    advance();
                    return node;
                case STRING:
                    node = leaf(STRING);
                    tree.setData(node, pack(tree.data(node)));
                    return node;
                case TABLE:
                    return table();
                case LEFT:
                    enter();
                    node = leaf(PAREN);
                    tree.hang(node, expression());
                    due(RIGHT);
                    depth--;
                    return node;
                default:
                    refuse();
                    return 0;
            }
        }

        private int table() {
            enter();
            int node = leaf(TABLE);
            int count = 0;
            for (int i = 0; i < MANY; i++) {
                tree.hang(node, expression());
                count++;
                if (kind() != COMMA) {
                    break;
                }
                advance();
            }
            tree.setData(node, program.words());
            for (int i = 0; i < count; i++) {
                program.addWord(0);
            }
            depth--;
            return node;
        }

        /** Gives a string its words: how many bytes, then they, four in a word. */
        private int pack(int head) {
            int count = strings.get(head);
            int address = program.words();
            for (int i = 0; i <= count; i += 4) {
                int word = 0;
                for (int j = 0; j < 4 && i + j <= count; j++) {
                    word |= strings.get(head + i + j) << 8 * j;
                }
                program.addWord(word);
            }
            return address;
        }

        private int calls(int callee) {
            int node = tree.node(CALLS, tree.place(callee), 0);
            int first = tree.node(WHOLE, tree.place(callee), 0);
            tree.hang(first, callee);
            tree.hang(node, first);
            for (int i = 0; i < MANY && kind() == LEFT; i++) {
                enter();
                int list = leaf(ARGUMENTS);
                int count = 0;
                boolean more = kind() != RIGHT;
                for (int j = 1; j <= LIST_MOST && more; j++) {
                    tree.hang(list, expression());
                    count++;
                    more = kind() == COMMA && j < LIST_MOST;
                    if (more) {
                        advance();
                    }
                }
                due(RIGHT);
                tree.setData(list, count);
                tree.hang(node, list);
            }
            return node;
        }
    }

    /** What names mean at the place at hand: those of the innermost block lie uppermost. */
    private static final class Scope {
        private final Program program;
        private final Ints names = new Ints(MANY);
        private final Ints kinds = new Ints(MANY);
        private final Ints datas = new Ints(MANY);
        private final Ints owners = new Ints(MANY);
        private final Ints places = new Ints(MANY);
        private final Ints marks = new Ints(MANY);
        private int floor = 0;

        Scope(Program program) {
            this.program = program;
        }

        /** Leaves what is there from outside alone. */
        void clear() {
            cut(0);
            marks.cut(0);
            floor = 0;
            for (int i = 0; i < LIBRARY_COUNT; i++) {
                put(KEYWORDS + i, A_LIBRARY, LIBRARY_ENTRY + i, 0, 0);
            }
        }

        private void cut(int length) {
            names.cut(length);
            kinds.cut(length);
            datas.cut(length);
            owners.cut(length);
            places.cut(length);
        }

        private int put(int name, int kind, int data, int owner, int place) {
            names.add(name);
            kinds.add(kind);
            datas.add(data);
            owners.add(owner);
            places.add(place);
            return names.size() - 1;
        }

        void open() {
            marks.add(floor);
            floor = names.size();
        }

        void close() {
            cut(floor);
            floor = marks.pop();
        }

        /** Declares a name in the innermost block; of two that are the same the one behind is told, and means nothing. */
        int declare(int name, int kind, int data, int owner, int place) {
            int meant = name;
            for (int i = floor; i < names.size(); i++) {
                if (names.get(i) == name) {
                    program.blame(4, Math.max(place, places.get(i)));
                    meant = place > places.get(i) ? NONE : meant;
                }
            }
            return put(meant, kind, data, owner, place);
        }

        /** Where the name's meaning lies: NONE when it has none. */
        int find(int name) {
            for (int i = names.size() - 1; i >= 0; i--) {
                if (names.get(i) == name) {
                    return i;
                }
            }
            return NONE;
        }

        int kind(int entry) {
            return kinds.get(entry);
        }

        int data(int entry) {
            return datas.get(entry);
        }

        int owner(int entry) {
            return owners.get(entry);
        }

        int place(int entry) {
            return places.get(entry);
        }

        void setData(int entry, int data) {
            datas.set(entry, data);
        }

        void setOwner(int entry, int owner) {
            owners.set(entry, owner);
        }
    }

    /** Works the K's; of one with a fault nothing more is asked, so its number is 0. */
    private static final class Constants {
        private final Tree tree;
        private final Program program;
        private final Scope scope;
        private final Ints stack = new Ints(MANY);
        private boolean failed = false;
        private int faultKind = 0;
        private int faultPlace = 0;

        Constants(Tree tree, Program program, Scope scope) {
            this.tree = tree;
            this.program = program;
            this.scope = scope;
        }

        boolean hasFailed() {
            return failed;
        }

        /** The K's number, which must not be outside 0 .. most; when that is NONE, any number will do. */
        int number(int whole, int most) {
            failed = false;
            stack.cut(0);
            int number = reckon(whole, true);
            if (!failed && most != NONE && (number < 0 || number > most)) {
                fail(6, tree.place(whole));
            }
            if (failed) {
                program.blame(faultKind, faultPlace);
            }
            return failed ? 0 : number;
        }

        /** Keeps the K's fault at the least place, for what a sign asks comes behind what stands behind it. */
        private void fail(int kind, int place) {
            if (!failed || place < faultPlace) {
                failed = true;
                faultKind = kind;
                faultPlace = place;
            }
        }

        /** Works the parts of an E in order; what isn't worked by the rules is looked through for its names alone. */
        private int reckon(int whole, boolean asked) {
            boolean live = asked;
            boolean linked = true;
            int item = tree.first(whole);
            for (int i = 0; i < MANY && item != 0; i++) {
                int data = tree.data(item);
                int place = tree.place(item);
                switch (tree.kind(item)) {
                    case PAREN:
                        stack.add(reckon(tree.first(item), live));
                        break;
                    case CHOICE:
                        stack.add(choose(item, live));
                        break;
                    case CALLS:
                        stack.add(reckon(tree.first(item), live));
                        fail(6, tree.place(tree.next(tree.first(item))));
                        break;
                    case SIGN:
                        if (isRelation(data)) {
                            linked = relate(data, linked, tree.extra(item) != 0);
                            live = asked && linked;
                        } else {
                            work(data, live, place);
                        }
                        break;
                    case NAME:
                        int entry = scope.find(data);
                        boolean isNumber = entry >= 0 && scope.kind(entry) == A_MANIFEST && scope.owner(entry) != 0;
                        if (!isNumber) {
                            fail(entry < 0 ? 3 : 6, place);
                        }
                        stack.add(isNumber ? scope.data(entry) : 0);
                        break;
                    default:
                        single(tree.kind(item), data, place);
                        break;
                }
                item = tree.next(item);
            }
            return stack.pop();
        }

        /** Works one relation of a row; tells whether what stands behind it is worked. */
        private boolean relate(int sign, boolean linked, boolean more) {
            int right = stack.pop();
            int left = stack.pop();
            boolean held = linked && holds(sign, left, right);
            stack.add(more ? right : held ? -1 : 0);
            return !more || held;
        }

        private void work(int sign, boolean live, int place) {
            int right = stack.pop();
            int left = stack.pop();
            if (isDivision(sign) && right == 0 && live && !failed) {
                fail(6, place);
            }
            stack.add(worked(sign, left, right));
        }

        private int choose(int item, boolean live) {
            int test = tree.first(item);
            int yes = tree.next(test);
            boolean first = reckon(test, live) != 0;
            int one = reckon(yes, live && first);
            int other = reckon(tree.next(yes), live && !first);
            return first ? one : other;
        }

        private void single(int kind, int data, int place) {
            switch (kind) {
                case NUMBER:
                    stack.add(data);
                    break;
                case UNARY:
                    int number = stack.pop();
                    stack.add(data == MINUS ? -number : data == TILDE ? ~number : number);
                    break;
                case BANG:
                case PERCENT:
                    stack.pop();
                    fail(6, place);
                    break;
                case INDIRECT:
                case ADDRESS:
                    fail(6, place);
                    break;
                default:
                    fail(6, place);
                    stack.add(0);
                    break;
            }
        }
    }

    /** Asks what the names mean, tells the faults 3 to 6, and writes the code. */
    private static final class Coder {
        private final Tree tree;
        private final Program program;
        private final Scope scope;
        private final Constants constants;
        private final Ints labels = new Ints(MANY);
        private final Ints gotos = new Ints(MANY);
        private final Ints cases = new Ints(MANY);
        // Chains of jumps to be sent on: 0 is an empty one, NONE says that such a command can't stand here.
        private int breaks = NONE;
        private int loops = NONE;
        private int endcases = NONE;
        private int results = NONE;
        private int caseBase = 0;
        private int fallback = 0;
        private int used = 0;
        private int most = 0;
        private int routine = NONE;
        private int area = 0;
        private int areas = 0;
        private boolean isFunction = false;

        Coder(Tree tree, Program program) {
            this.tree = tree;
            this.program = program;
            scope = new Scope(program);
            constants = new Constants(tree, program, scope);
        }

        void translate(int root) {
            scope.clear();
            labels.cut(0);
            gotos.cut(0);
            cases.cut(0);
            leaveAll();
            used = 0;
            most = 0;
            routine = NONE;
            area = 0;
            areas = 0;
            section(root);
            // A GOTO may stand ahead of its label.
            for (int i = 0; i + 1 < gotos.size(); i += 2) {
                program.setOperand(gotos.get(i), labels.get(gotos.get(i + 1)));
            }
        }

        private void leaveAll() {
            breaks = NONE;
            loops = NONE;
            endcases = NONE;
            results = NONE;
        }

        private int emit(int op, int operand) {
            return program.emit(op, operand);
        }

        private void definitions(int node) {
            int kind = tree.kind(node);
            int part = tree.first(node);
            int entry = NONE;
            int first = NONE;
            for (int i = 0; i < MANY && part != 0; i++) {
                int meaning = kind == MANIFEST ? A_MANIFEST : A_WORD;
                entry = scope.declare(tree.data(part), meaning, tree.extra(part), 0, tree.place(part));
                first = first < 0 ? entry : first;
                part = tree.next(part);
            }
            part = tree.first(node);
            for (int i = 0; i < MANY && part != 0; i++) {
                int whole = tree.first(part);
                int number = constants.number(whole, kind == GLOBAL ? GLOBALS - 1 : NONE);
                if (kind == STATIC) {
                    program.setWord(tree.extra(part), number);
                } else {
                    scope.setData(first + i, number);
                }
                if (kind == MANIFEST) {
                    scope.setOwner(first + i, 1);
                }
                part = tree.next(part);
            }
        }

        private void routines(int node) {
            int part = tree.first(node);
            for (int i = 0; i < MANY && part != 0; i++) {
                routineName(part);
                part = tree.next(part);
            }
            part = tree.first(node);
            for (int i = 0; i < MANY && part != 0; i++) {
                routine(part);
                part = tree.next(part);
            }
        }

        private void routineName(int node) {
            int index = tree.extra(node);
            int home = program.home(index);
            if (home >= 0) {
                scope.declare(tree.data(node), A_WORD, home, 0, tree.place(node));
                return;
            }
            int entry = scope.find(tree.data(node));
            if (scope.owner(entry) != 0) {
                program.blame(4, Math.max(tree.place(node), scope.place(entry)));
            }
            scope.setOwner(entry, 1);
            program.setWord(scope.data(entry), TEXT_ENTRY + index);
        }

        private void routine(int node) {
            int outerBreaks = breaks;
            int outerLoops = loops;
            int outerEndcases = endcases;
            int outerResults = results;
            int outerUsed = used;
            int outerMost = most;
            int outerRoutine = routine;
            int outerArea = area;
            boolean outerFunction = isFunction;
            int past = emit(OP_JUMP, 0);
            leaveAll();
            routine = tree.extra(node);
            areas++;
            area = areas;
            isFunction = tree.kind(node) == FUNCTION;
            scope.open();
            int body = parameters(node);
            if (isFunction) {
                expression(body, VALUE, 0);
            } else {
                command(body);
                emit(OP_CONST, 0);
            }
            emit(OP_BACK, 0);
            scope.close();
            program.setFrame(routine, most);
            program.land(past);
            breaks = outerBreaks;
            loops = outerLoops;
            endcases = outerEndcases;
            results = outerResults;
            used = outerUsed;
            most = outerMost;
            routine = outerRoutine;
            area = outerArea;
            isFunction = outerFunction;
        }

        /** Declares the parameters and tells the body, which stands behind them. */
        private int parameters(int node) {
            int part = tree.first(node);
            used = 2;
            for (int i = 0; i < LIST_MOST && tree.next(part) != 0; i++) {
                scope.declare(tree.data(part), A_VARIABLE, used, routine, tree.place(part));
                used++;
                part = tree.next(part);
            }
            most = used;
            program.setBegin(routine, used - 2);
            return part;
        }

        private void take(int words) {
            used = Math.min(used + words, 1 << 25);
            most = Math.max(most, used);
        }

        private void variables(int node) {
            emit(OP_BURN, 1);
            int count = tree.data(node);
            int names = tree.first(node);
            int part = names;
            for (int i = 0; i < count; i++) {
                part = tree.next(part);
            }
            int words = count;
            for (int i = 0; i < count; i++) {
                if (tree.kind(part) == VEC) {
                    emit(OP_HERE, used + words);
                    words += constants.number(tree.first(part), VEC_MOST) + 1;
                } else {
                    expression(part, VALUE, 0);
                }
                part = tree.next(part);
            }
            for (int i = count - 1; i >= 0; i--) {
                emit(OP_SAVE, used + i);
            }
            part = names;
            for (int i = 0; i < count; i++) {
                scope.declare(tree.data(part), A_VARIABLE, used + i, routine, tree.place(part));
                part = tree.next(part);
            }
            take(words);
        }

        /** A block, what a switch has, or the whole text. */
        private void section(int node) {
            int outerUsed = used;
            scope.open();
            int part = tree.first(node);
            for (int i = 0; i < MANY && part != 0; i++) {
                if (tree.kind(part) == LABEL) {
                    tree.setExtra(part, labels.size());
                    scope.declare(tree.data(part), A_LABEL, labels.size(), area, tree.place(part));
                    labels.add(0);
                }
                part = tree.next(part);
            }
            part = tree.first(node);
            for (int i = 0; i < MANY && part != 0; i++) {
                switch (tree.kind(part)) {
                    case LABEL:
                        labels.set(tree.extra(part), program.here());
                        break;
                    case CASE:
                    case DEFAULT:
                        entrance(part);
                        break;
                    case ROUTINES:
                        routines(part);
                        break;
                    case VARIABLES:
                        variables(part);
                        break;
                    case GLOBAL:
                    case MANIFEST:
                    case STATIC:
                        definitions(part);
                        break;
                    default:
                        command(part);
                        break;
                }
                part = tree.next(part);
            }
            scope.close();
            used = outerUsed;
        }

        /** A CASE or a DEFAULT of the switch at hand. */
        private void entrance(int node) {
            if (tree.kind(node) == DEFAULT) {
                if (fallback != NONE) {
                    program.blame(6, tree.place(node));
                }
                fallback = program.here();
                return;
            }
            int whole = tree.first(node);
            int number = constants.number(whole, NONE);
            if (constants.hasFailed()) {
                return;
            }
            for (int i = caseBase; i < cases.size(); i += 2) {
                if (cases.get(i) == number) {
                    program.blame(6, tree.place(whole));
                }
            }
            cases.add(number);
            cases.add(program.here());
        }

        private void command(int node) {
            switch (tree.kind(node)) {
                case NOTHING:
                    return;
                case SECTION:
                    section(node);
                    return;
                case REPEATS:
                    repeats(node);
                    return;
                default:
                    break;
            }
            emit(OP_BURN, 1);
            switch (tree.kind(node)) {
                case ASSIGN:
                    assignment(node);
                    break;
                case CALLING:
                    expression(tree.first(node), VALUE, 0);
                    emit(OP_POP, 0);
                    break;
                case IF:
                case UNLESS:
                case TEST:
                    conditional(node);
                    break;
                case WHILE:
                case UNTIL:
                    asking(node);
                    break;
                case FOR:
                    counting(node);
                    break;
                case SWITCHON:
                    switching(node);
                    break;
                case RESULTIS:
                    telling(node);
                    break;
                default:
                    leaving(node);
                    break;
            }
        }

        private void assignment(int node) {
            int count = tree.data(node);
            int left = tree.first(node);
            int right = left;
            for (int i = 0; i < count; i++) {
                right = tree.next(right);
            }
            for (int i = 0; i < count; i++) {
                expression(right, VALUE, 0);
                expression(left, TARGET, tree.place(left));
                emit(isByte(left) ? OP_POKEBYTE : OP_POKE, 0);
                left = tree.next(left);
                right = tree.next(right);
            }
        }

        private boolean isByte(int whole) {
            int item = tree.last(whole);
            for (int i = 0; i < MANY && tree.kind(item) == PAREN; i++) {
                item = tree.last(tree.first(item));
            }
            return tree.kind(item) == PERCENT;
        }

        private void conditional(int node) {
            int asked = tree.first(node);
            int first = tree.next(asked);
            expression(asked, VALUE, 0);
            int past = emit(tree.kind(node) == UNLESS ? OP_IF : OP_IFNOT, 0);
            command(first);
            if (tree.kind(node) == TEST) {
                int done = emit(OP_JUMP, 0);
                program.land(past);
                command(tree.next(first));
                program.land(done);
            } else {
                program.land(past);
            }
        }

        private void asking(int node) {
            int outerBreaks = breaks;
            int outerLoops = loops;
            int asked = tree.first(node);
            int ask = program.here();
            emit(OP_BURN, 1);
            expression(asked, VALUE, 0);
            breaks = emit(tree.kind(node) == WHILE ? OP_IFNOT : OP_IF, 0);
            loops = 0;
            command(tree.next(asked));
            emit(OP_JUMP, ask);
            program.landAt(loops, ask);
            program.land(breaks);
            breaks = outerBreaks;
            loops = outerLoops;
        }

        /** All REPEATs behind one command begin where it begins; what its BREAK and LOOP leave is the first. */
        private void repeats(int node) {
            int outerBreaks = breaks;
            int outerLoops = loops;
            int body = tree.first(node);
            int again = program.here();
            breaks = 0;
            loops = 0;
            command(body);
            int round = tree.next(body);
            for (int i = 0; i < MANY && round != 0; i++) {
                program.land(loops);
                emit(OP_BURN, 1);
                int asked = tree.first(round);
                if (asked == 0) {
                    emit(OP_JUMP, again);
                } else {
                    expression(asked, VALUE, 0);
                    emit(tree.kind(round) == REPEATUNTIL ? OP_IFNOT : OP_IF, again);
                }
                program.land(breaks);
                breaks = 0;
                loops = 0;
                round = tree.next(round);
            }
            breaks = outerBreaks;
            loops = outerLoops;
        }

        private void counting(int node) {
            int outerBreaks = breaks;
            int outerLoops = loops;
            int outerUsed = used;
            int first = tree.first(node);
            int last = tree.next(first);
            int step = tree.extra(node) == 0 ? 1 : constants.number(tree.extra(node), NONE);
            expression(first, VALUE, 0);
            expression(last, VALUE, 0);
            emit(OP_SAVE, outerUsed + 1);
            emit(OP_SAVE, outerUsed);
            take(2);
            scope.open();
            scope.declare(tree.data(node), A_VARIABLE, outerUsed, routine, tree.place(node));
            int ask = program.here();
            emit(OP_BURN, 1);
            emit(OP_LOCAL, outerUsed);
            emit(OP_LOCAL, outerUsed + 1);
            emit(OP_SIGN + (step < 0 ? LESS : MORE), 0);
            breaks = emit(OP_IF, 0);
            loops = 0;
            command(tree.next(last));
            program.land(loops);
            emit(OP_LOCAL, outerUsed);
            emit(OP_CONST, step);
            emit(OP_SIGN + PLUS, 0);
            emit(OP_SAVE, outerUsed);
            emit(OP_JUMP, ask);
            program.land(breaks);
            scope.close();
            used = outerUsed;
            breaks = outerBreaks;
            loops = outerLoops;
        }

        private void switching(int node) {
            int outerEndcases = endcases;
            int outerBase = caseBase;
            int outerFallback = fallback;
            int asked = tree.first(node);
            expression(asked, VALUE, 0);
            int choose = emit(OP_JUMP, 0);
            endcases = 0;
            caseBase = cases.size();
            fallback = NONE;
            section(tree.next(asked));
            endcases = emit(OP_JUMP, endcases);
            program.land(choose);
            for (int i = caseBase; i < cases.size(); i += 2) {
                emit(OP_CASE, cases.get(i));
                emit(OP_JUMP, cases.get(i + 1));
            }
            emit(OP_POP, 0);
            if (fallback != NONE) {
                emit(OP_JUMP, fallback);
            }
            program.land(endcases);
            cases.cut(caseBase);
            endcases = outerEndcases;
            caseBase = outerBase;
            fallback = outerFallback;
        }

        private void telling(int node) {
            expression(tree.first(node), VALUE, 0);
            if (results < 0) {
                program.blame(6, tree.place(node));
            } else {
                results = emit(OP_JUMP, results);
            }
        }

        private void leaving(int node) {
            int kind = tree.kind(node);
            boolean stray = kind == BREAK && breaks < 0 || kind == LOOP && loops < 0 || kind == ENDCASE && endcases < 0
                    || kind == RETURN && isFunction;
            if (stray) {
                program.blame(6, tree.place(node));
            } else if (kind == BREAK) {
                breaks = emit(OP_JUMP, breaks);
            } else if (kind == LOOP) {
                loops = emit(OP_JUMP, loops);
            } else if (kind == ENDCASE) {
                endcases = emit(OP_JUMP, endcases);
            } else if (kind == RETURN) {
                emit(OP_CONST, 0);
                emit(OP_BACK, 0);
            } else if (kind == FINISH) {
                emit(OP_FINISH, 0);
            } else {
                going(node);
            }
        }

        private void going(int node) {
            int entry = scope.find(tree.data(node));
            if (entry < 0) {
                program.blame(3, tree.place(node));
            } else if (scope.kind(entry) != A_LABEL || scope.owner(entry) != area) {
                program.blame(6, tree.place(node));
            } else {
                gotos.add(emit(OP_JUMP, 0));
                gotos.add(scope.data(entry));
            }
        }

        /** Works an E for its value, or for the place it names; what names none is told at the place to blame. */
        private void expression(int whole, int mode, int blame) {
            int chain = 0;
            int item = tree.first(whole);
            for (int i = 0; i < MANY && item != 0; i++) {
                int next = tree.next(item);
                boolean isPointed = tree.kind(next) == ADDRESS;
                int want = isPointed ? PLACE : next == 0 ? mode : VALUE;
                int told = isPointed ? tree.data(next) : blame;
                switch (tree.kind(item)) {
                    case PAREN:
                        expression(tree.first(item), want, told);
                        break;
                    case CALLS:
                        calls(item);
                        unfit(want, told);
                        break;
                    case VALOF:
                        valof(item);
                        unfit(want, told);
                        break;
                    case CHOICE:
                        choice(item);
                        unfit(want, told);
                        break;
                    case TABLE:
                        table(item);
                        unfit(want, told);
                        break;
                    case SIGN:
                        chain = sign(item, chain);
                        unfit(want, told);
                        break;
                    default:
                        single(item, want, told);
                        break;
                }
                item = next;
            }
        }

        private void unfit(int want, int told) {
            if (want != VALUE) {
                program.blame(6, told);
            }
        }

        private void calls(int node) {
            int first = tree.first(node);
            int count = 0;
            int list = tree.next(first);
            for (int i = 0; i < MANY && list != 0; i++) {
                count++;
                list = tree.next(list);
            }
            for (int i = count; i > 0; i--) {
                arguments(node, i);
            }
            expression(first, VALUE, 0);
            list = tree.next(first);
            for (int i = 0; i < count; i++) {
                emit(OP_CALL, used * 32 + tree.data(list));
                list = tree.next(list);
            }
        }

        private void arguments(int node, int place) {
            int list = tree.first(node);
            for (int i = 0; i < place; i++) {
                list = tree.next(list);
            }
            int part = tree.first(list);
            for (int i = 0; i < LIST_MOST && part != 0; i++) {
                expression(part, VALUE, 0);
                part = tree.next(part);
            }
        }

        /** Inside a VALOF the loops and switches around it are none. */
        private void valof(int node) {
            int outerBreaks = breaks;
            int outerLoops = loops;
            int outerEndcases = endcases;
            int outerResults = results;
            int outerArea = area;
            leaveAll();
            results = 0;
            areas++;
            area = areas;
            command(tree.first(node));
            emit(OP_CONST, 0);
            program.land(results);
            breaks = outerBreaks;
            loops = outerLoops;
            endcases = outerEndcases;
            results = outerResults;
            area = outerArea;
        }

        private void choice(int node) {
            int asked = tree.first(node);
            int first = tree.next(asked);
            expression(asked, VALUE, 0);
            int other = emit(OP_IFNOT, 0);
            expression(first, VALUE, 0);
            int done = emit(OP_JUMP, 0);
            program.land(other);
            expression(tree.next(first), VALUE, 0);
            program.land(done);
        }

        /** A sign between two; the relations of one row jump to its end when one of them is false. */
        private int sign(int node, int chain) {
            int sign = tree.data(node);
            if (tree.extra(node) != 0) {
                return emit(OP_LINK + sign, chain);
            }
            emit(OP_SIGN + sign, 0);
            if (!isRelation(sign)) {
                return chain;
            }
            program.land(chain);
            return 0;
        }

        private void single(int node, int want, int told) {
            boolean isValue = want == VALUE;
            boolean fits = false;
            switch (tree.kind(node)) {
                case NAME:
                    name(node, want, told);
                    fits = true;
                    break;
                case NUMBER:
                case STRING:
                    emit(OP_CONST, tree.data(node));
                    break;
                case BANG:
                    emit(isValue ? OP_INDEX : OP_SIGN + PLUS, 0);
                    fits = true;
                    break;
                case PERCENT:
                    if (isValue) {
                        emit(OP_BYTE, 0);
                    }
                    fits = want == TARGET;
                    break;
                case INDIRECT:
                    if (isValue) {
                        emit(OP_PEEK, 0);
                    }
                    fits = true;
                    break;
                case UNARY:
                    unary(tree.data(node));
                    break;
                default:
                    // What stands behind @ has left its address.
                    break;
            }
            if (!fits) {
                unfit(want, told);
            }
        }

        private void unary(int sign) {
            if (sign == MINUS) {
                emit(OP_NEG, 0);
            } else if (sign == TILDE) {
                emit(OP_NOT, 0);
            }
        }

        private void table(int node) {
            int address = tree.data(node);
            int part = tree.first(node);
            for (int i = 0; i < MANY && part != 0; i++) {
                program.setWord(address + i, constants.number(part, NONE));
                part = tree.next(part);
            }
            emit(OP_CONST, address);
        }

        private void name(int node, int want, int told) {
            int entry = scope.find(tree.data(node));
            if (entry < 0) {
                program.blame(3, tree.place(node));
                return;
            }
            int data = scope.data(entry);
            switch (scope.kind(entry)) {
                case A_WORD:
                    emit(want == VALUE ? OP_WORD : OP_CONST, data);
                    break;
                case A_VARIABLE:
                    emit(want == VALUE ? OP_LOCAL : OP_HERE, data);
                    if (scope.owner(entry) != routine) {
                        program.blame(5, tree.place(node));
                    }
                    break;
                case A_LABEL:
                    program.blame(6, tree.place(node));
                    unfit(want, told);
                    break;
                default:
                    emit(OP_CONST, data);
                    unfit(want, told);
                    break;
            }
        }
    }

    /** The inputs and the outputs, and which of them are at hand. */
    private static final class Channels {
        private final Ints[] inputs = {new Ints(TAPE_MOST), new Ints(TAPE_MOST), new Ints(TAPE_MOST), new Ints(TAPE_MOST)};
        private final int[] positions = new int[4];
        private final Ints[] outputs = {new Ints(OUTPUT_MOST), new Ints(OUTPUT_MOST)};
        private int inHand = 0;
        private int outHand = 0;

        private boolean isInput(int k) {
            return k >= 0 && k < inputs.length && k < positions.length;
        }

        private boolean isOutput(int k) {
            return k >= 0 && k < outputs.length;
        }

        int take(int k, Ints tape) {
            if (!isInput(k)) {
                return NONE;
            }
            inputs[k].copyFrom(tape);
            positions[k] = 0;
            return inputs[k].size();
        }

        int length(int k) {
            return isOutput(k) ? outputs[k].size() : NONE;
        }

        int byteAt(int k, int i) {
            return isOutput(k) ? outputs[k].get(i) : 0;
        }

        void beginRun() {
            inHand = 0;
            outHand = 0;
            for (int k = 0; k < outputs.length; k++) {
                outputs[k].cut(0);
            }
        }

        boolean selectInput(int k) {
            if (isInput(k)) {
                inHand = k;
            }
            return isInput(k);
        }

        boolean selectOutput(int k) {
            if (isOutput(k)) {
                outHand = k;
            }
            return isOutput(k);
        }

        void rewind() {
            if (isInput(inHand)) {
                positions[inHand] = 0;
            }
        }

        /** The byte that comes next, -1 at the end. */
        private int next() {
            boolean more = isInput(inHand) && positions[inHand] < inputs[inHand].size();
            return more ? inputs[inHand].get(positions[inHand]) : -1;
        }

        int read() {
            int c = next();
            if (c >= 0 && isInput(inHand)) {
                positions[inHand]++;
            }
            return c;
        }

        boolean unread() {
            if (!isInput(inHand) || positions[inHand] <= 0) {
                return false;
            }
            positions[inHand]--;
            return true;
        }

        int readNumber() {
            for (int i = 0; i < MANY && isBlank(next()); i++) {
                read();
            }
            boolean negative = next() == '-';
            if (negative || next() == '+') {
                read();
            }
            int number = 0;
            for (int i = 0; i < MANY && next() >= '0' && next() <= '9'; i++) {
                number = number * 10 + read() - '0';
            }
            return negative ? -number : number;
        }

        private static boolean isBlank(int c) {
            return c == 32 || c == 9 || c == 10 || c == 13;
        }

        void write(int c) {
            if (isOutput(outHand)) {
                outputs[outHand].add(c & 255);
            }
        }

        void writeNumber(int number, int width) {
            long rest = Math.abs((long) number);
            long unit = 1;
            int length = number < 0 ? 2 : 1;
            for (int i = 0; i < 10 && rest / unit >= 10; i++) {
                unit *= 10;
                length++;
            }
            for (int i = length; i < Math.min(width, 100); i++) {
                write(' ');
            }
            if (number < 0) {
                write('-');
            }
            for (int i = 0; i < 11 && unit > 0; i++) {
                write('0' + (int) (rest / unit % 10));
                unit /= 10;
            }
        }

        void writeHex(int number, int digits) {
            for (int i = Math.max(1, Math.min(8, digits)) - 1; i >= 0; i--) {
                int digit = number >>> 4 * i & 15;
                write(digit < 10 ? '0' + digit : 'A' + digit - 10);
            }
        }
    }

    /** The vectors that were got and not freed. */
    private static final class Heap {
        private final Ints starts = new Ints(VECTORS_MOST);
        private final Ints lengths = new Ints(VECTORS_MOST);

        void clear() {
            starts.cut(0);
            lengths.cut(0);
        }

        /** Gets words as high as they are free between the floor and the store's end: 0 when there is no room. */
        int get(int length, int floor, int words) {
            if (length < 1 || length > words || starts.size() >= VECTORS_MOST) {
                return 0;
            }
            int start = words - length;
            for (int i = 0; i <= VECTORS_MOST && start >= floor; i++) {
                int other = touched(start, length);
                if (other < 0) {
                    starts.add(start);
                    lengths.add(length);
                    return start;
                }
                start = starts.get(other) - length;
            }
            return 0;
        }

        private int touched(int start, int length) {
            for (int i = 0; i < starts.size(); i++) {
                if (starts.get(i) < start + length && start < starts.get(i) + lengths.get(i)) {
                    return i;
                }
            }
            return NONE;
        }

        boolean free(int start) {
            for (int i = 0; i < starts.size(); i++) {
                if (starts.get(i) == start) {
                    starts.set(i, starts.top());
                    lengths.set(i, lengths.top());
                    starts.pop();
                    lengths.pop();
                    return true;
                }
            }
            return false;
        }

        /** Beyond what frames may not go on. */
        int limit(int words) {
            int least = words;
            for (int i = 0; i < starts.size(); i++) {
                least = Math.min(least, starts.get(i));
            }
            return least;
        }
    }

    /** Runs the code that was compiled. */
    private static final class Machine {
        private static final long STEPS_MOST = 100000000000L;

        private final Program program;
        private final Channels channels;
        private final Heap heap = new Heap();
        private final Ints stack = new Ints(MANY);
        private final Ints calls = new Ints(MANY);
        private int[] cells = new int[FIRST_STORE];
        private int words = 0;
        private int at = 0;
        private int base = 0;
        private int routine = NONE;
        private int rest = 0;
        private int answer = 0;
        private int error = 0;
        private boolean over = false;
        // The library's routine that was called, with so many arguments on the stack; NONE when none waits.
        private int service = NONE;
        private int given = 0;

        Machine(Program program, Channels channels) {
            this.program = program;
            this.channels = channels;
        }

        int told() {
            return answer;
        }

        int fuelLeft() {
            return rest;
        }

        int left(int address) {
            return isThere(address) ? cells[address] : 0;
        }

        private boolean isThere(int address) {
            return address >= 0 && address < words && address < cells.length;
        }

        int go(int fuel) {
            prepare();
            rest = fuel;
            enter(program.starter(), 0, program.words());
            for (long i = 0; i < STEPS_MOST && !over; i++) {
                int op = program.codeAt(at);
                int operand = program.codeAt(at + 1);
                at += 2;
                if (op <= OP_POP) {
                    step(op, operand);
                } else {
                    turn(op, operand);
                }
                if (service != NONE) {
                    serve();
                }
            }
            return error;
        }

        private void prepare() {
            words = program.storeWords();
            if (cells.length < words && words <= LAST_STORE) {
                cells = new int[words];
            }
            Arrays.fill(cells, 0);
            for (int i = 0; i < program.words(); i++) {
                put(i, program.wordAt(i));
            }
            heap.clear();
            channels.beginRun();
            stack.cut(0);
            calls.cut(0);
            base = 0;
            routine = NONE;
            answer = 0;
            error = 0;
            over = false;
            service = NONE;
        }

        private void fail(int kind) {
            if (!over) {
                error = kind;
                over = true;
            }
        }

        private void finish(int number, int kind) {
            answer = number;
            error = kind;
            over = true;
        }

        private boolean burns() {
            if (rest < 1) {
                fail(1);
                return false;
            }
            rest--;
            return true;
        }

        private void put(int address, int word) {
            if (isThere(address)) {
                cells[address] = word;
            } else {
                fail(2);
            }
        }

        private int look(int address) {
            if (isThere(address)) {
                return cells[address];
            }
            fail(2);
            return 0;
        }

        /** What loads, stores and works on one word. */
        private void step(int op, int operand) {
            switch (op) {
                case OP_CONST:
                    stack.add(operand);
                    break;
                case OP_LOCAL:
                    stack.add(look(base + operand));
                    break;
                case OP_WORD:
                    stack.add(look(operand));
                    break;
                case OP_HERE:
                    stack.add(base + operand);
                    break;
                case OP_PEEK:
                    stack.add(look(stack.pop()));
                    break;
                case OP_INDEX:
                    stack.add(look(stack.pop() + stack.pop()));
                    break;
                case OP_BYTE:
                    lookByte();
                    break;
                case OP_NEG:
                    stack.add(-stack.pop());
                    break;
                case OP_NOT:
                    stack.add(~stack.pop());
                    break;
                case OP_SAVE:
                    put(base + operand, stack.pop());
                    break;
                case OP_POKE:
                    int target = stack.pop();
                    put(target, stack.pop());
                    break;
                case OP_POKEBYTE:
                    putByte();
                    break;
                case OP_POP:
                    stack.pop();
                    break;
                default:
                    finish(0, 0);
                    break;
            }
        }

        /** What goes elsewhere, or may end the run; and the signs between two. */
        private void turn(int op, int operand) {
            switch (op) {
                case OP_JUMP:
                    at = operand;
                    break;
                case OP_IFNOT:
                    at = stack.pop() == 0 ? operand : at;
                    break;
                case OP_IF:
                    at = stack.pop() != 0 ? operand : at;
                    break;
                case OP_CASE:
                    if (stack.top() == operand) {
                        stack.pop();
                    } else {
                        at += 2;
                    }
                    break;
                case OP_BURN:
                    burns();
                    break;
                case OP_CALL:
                    call(stack.pop(), operand % 32, base + operand / 32);
                    break;
                case OP_BACK:
                    back();
                    break;
                case OP_FINISH:
                    finish(0, 0);
                    break;
                default:
                    int right = stack.pop();
                    int left = stack.pop();
                    if (op > OP_LINK) {
                        link(op - OP_LINK, left, right, operand);
                    } else {
                        work(op - OP_SIGN, left, right);
                    }
                    break;
            }
        }

        private void link(int relation, int left, int right, int behind) {
            if (holds(relation, left, right)) {
                stack.add(right);
            } else {
                stack.add(0);
                at = behind;
            }
        }

        private void work(int sign, int left, int right) {
            if (isDivision(sign) && right == 0) {
                fail(3);
            } else if (isRelation(sign)) {
                stack.add(holds(sign, left, right) ? -1 : 0);
            } else {
                stack.add(worked(sign, left, right));
            }
        }

        private int wordOfByte(int start, int place) {
            long address = (long) start + (place >> 2);
            if (address < 0 || address >= words) {
                fail(2);
                return NONE;
            }
            return (int) address;
        }

        private void lookByte() {
            int place = stack.pop();
            int address = wordOfByte(stack.pop(), place);
            if (!over) {
                stack.add(look(address) >>> 8 * (place & 3) & 255);
            }
        }

        private void putByte() {
            int place = stack.pop();
            int address = wordOfByte(stack.pop(), place);
            int value = stack.pop();
            int shift = 8 * (place & 3);
            if (!over) {
                put(address, look(address) & ~(255 << shift) | (value & 255) << shift);
            }
        }

        private static boolean isBetween(int number, int from, int count) {
            return number >= from && number - from < count;
        }

        private void call(int entry, int count, int frame) {
            if (isBetween(entry, TEXT_ENTRY, program.routines())) {
                enter(entry - TEXT_ENTRY, count, frame);
            } else if (entry == LIBRARY_ENTRY + 13) {
                apply(count, frame);
            } else if (isBetween(entry, LIBRARY_ENTRY, LIBRARY_COUNT)) {
                service = entry - LIBRARY_ENTRY;
                given = count;
            } else {
                fail(4);
            }
        }

        /** Enters a routine of the text; its arguments lie uppermost on the stack. */
        private void enter(int index, int count, int frame) {
            if (!burns()) {
                return;
            }
            if (calls.size() >= 4 * CALLS_MOST || frame + program.frame(index) > heap.limit(words)) {
                fail(5);
                return;
            }
            put(frame, base);
            put(frame + 1, TEXT_ENTRY + index);
            for (int i = 0; i < program.params(index); i++) {
                put(frame + 2 + i, argument(i, count));
            }
            stack.cut(stack.size() - count);
            calls.add(at);
            calls.add(base);
            calls.add(routine);
            calls.add(stack.size());
            base = frame;
            routine = index;
            at = program.begin(index);
        }

        private int argument(int i, int count) {
            return i < count ? stack.get(stack.size() - count + i) : 0;
        }

        private void back() {
            int number = stack.pop();
            stack.cut(calls.pop());
            routine = calls.pop();
            base = calls.pop();
            at = calls.pop();
            stack.add(number);
            if (calls.size() == 0) {
                finish(number, 0);
            }
        }

        /** APTOVEC: the words lie where the frame would be, the frame behind them. */
        private void apply(int count, int frame) {
            int entry = argument(0, count);
            int n = argument(1, count);
            boolean isText = isBetween(entry, TEXT_ENTRY, program.routines());
            if (!isText && !isBetween(entry, LIBRARY_ENTRY, LIBRARY_COUNT)) {
                fail(4);
            } else if (n < 0 || n >= words) {
                fail(2);
            } else {
                stack.cut(stack.size() - count);
                stack.add(frame);
                stack.add(n);
                int behind = frame + n + 1;
                if (isText) {
                    enter(entry - TEXT_ENTRY, 2, behind);
                } else if (behind > heap.limit(words)) {
                    fail(5);
                } else if (entry == LIBRARY_ENTRY + 13) {
                    // An address is no entry.
                    fail(4);
                } else {
                    service = entry - LIBRARY_ENTRY;
                    given = 2;
                }
            }
        }

        private void serve() {
            int index = service;
            int first = argument(0, given);
            int second = argument(1, given);
            int third = argument(2, given);
            service = NONE;
            stack.cut(stack.size() - given);
            stack.add(index < 11 ? exchange(index, first) : reckon(index, first, second, third));
        }

        /** The library's first eleven, but for those that tell numbers. */
        private int exchange(int index, int first) {
            switch (index) {
                case 0:
                    channels.writeNumber(first, 0);
                    return 0;
                case 1:
                    writeString(first);
                    return 0;
                case 2:
                    channels.write(first);
                    return 0;
                case 3:
                    channels.write(10);
                    return 0;
                case 4:
                    return channels.read();
                case 5:
                    finish(first, 6);
                    return 0;
                case 6:
                    return first < 0 ? -first : first;
                case 7:
                    return channels.unread() ? -1 : 0;
                case 8:
                    return channels.selectInput(first) ? -1 : 0;
                case 9:
                    return channels.selectOutput(first) ? -1 : 0;
                default:
                    channels.rewind();
                    return 0;
            }
        }

        private int reckon(int index, int first, int second, int third) {
            switch (index) {
                case 11:
                    return heap.get(first < 0 || first >= words ? 0 : first + 1, base + program.frame(routine), words);
                case 12:
                    if (first != 0 && !heap.free(first)) {
                        fail(2);
                    }
                    return 0;
                case 14:
                    if (third == 0) {
                        fail(3);
                        return 0;
                    }
                    return (int) ((long) first * second / third);
                case 15:
                    channels.writeNumber(first, second);
                    return 0;
                case 16:
                    channels.writeHex(first, second);
                    return 0;
                default:
                    return channels.readNumber();
            }
        }

        private void writeString(int start) {
            int count = look(start) & 255;
            if (over) {
                return;
            }
            if (!isThere(start + count / 4)) {
                fail(2);
                return;
            }
            for (int i = 1; i <= count; i++) {
                channels.write(look(start + i / 4) >>> 8 * (i % 4));
            }
        }
    }
}
