/** Each edge that the promises themselves name: the last call that is taken, and the first that is refused and changes nothing (promises 1 to 13). */
public final class FaceEdgesTest {
    private static final int MIN = Integer.MIN_VALUE;
    private static final int MAX = Integer.MAX_VALUE;

    public static void main(String[] args) {
        newObject();
        feeding();
        ending();
        cutTexts();
        compiling();
        sizes();
        inputs();
        running();
        outputs();
        words();
        Check.end();
    }

    /** "Nothing is compiled; no input; the tape is empty", and what each call says "before any run". */
    private static void newObject() {
        for (int k : new int[] {MIN, -1, 0, 1, 2, MAX}) {
            WordTongue x = new WordTongue();
            Check.due("out(" + k + ")", x.out(k), k == 0 || k == 1 ? 0 : -1);
            for (int i : new int[] {MIN, -1, 0, 1, 4095, 4096, MAX}) {
                Check.due("outAt(" + k + ", " + i + ")", Check.hasOut(x, k, i), false);
            }
        }
        WordTongue x = new WordTongue();
        for (int address : new int[] {MIN, -1, 4096, 4097, 65535, MAX}) {
            Check.due("word(" + address + ")", Check.hasWord(x, address), false);
        }
        for (int address = 0; address < 100; address++) {
            Check.due("word(" + address + ")", x.word(address), 0);
        }
        Check.due("word(100)", x.word(100), 0);
        Check.due("word(4095)", x.word(4095), 0);
        x.store(65536);
        Check.due("no compiling yet", Check.hasWord(x, 4096), false);
        for (int fuel : new int[] {MIN, -1, 0, 1, 100000, 100001, MAX}) {
            Check.due("run(" + fuel + ")", x.run(fuel), -1);
        }
        Check.due("value", x.value(), 0);
        Check.due("fuel", x.fuel(), 0);
        Check.due("fault", x.fault(), 0);
        Check.due("the tape is empty", x.end(1), false);
        for (int k = 0; k < 4; k++) {
            WordTongue y = new WordTongue();
            Check.compile(y, Check.start("WRITEN(SELECTINPUT(" + k + ")); WRITEN(RDCH()); WRITEN(UNRDCH()); WRITEN(READN())"));
            Check.due("run", y.run(100), 0);
            Check.due("no input " + k, Check.out(y, 0), "-1-100");
        }
    }

    /** "Appends twenty bytes to the tape, of each number the highest first; false, changing nothing, when it would have more than 6000". */
    private static void feeding() {
        WordTongue x = new WordTongue();
        for (int i = 0; i < 300; i++) {
            Check.due("feed at " + 20 * i, x.feed(0x41414141, 0x41414141, 0x41414141, 0x41414141, 0x4141415A), true);
        }
        for (int i = 0; i < 3; i++) {
            Check.due("feed at 6000", x.feed(0x42424242, 0x42424242, 0x42424242, 0x42424242, 0x42424242), false);
        }
        Check.due("all 6000 count", x.end(6000), true);
        Check.due("no more do", x.end(6001), false);
        Check.due("input", x.input(0), 6000);
        Check.compile(x, Check.start("LET n, c = 0, RDCH(); WHILE c >= 'A' DO $( n := n + (c = 'A' -> 1, c = 'Z' -> 10000, 0); c := RDCH() $); WRITEN(n); WRITEN(c)"));
        Check.due("run", x.run(100000), 0);
        Check.due("the bytes: 5700 and 300", Check.out(x, 0), (19 * 300 + 10000 * 300) + "-1");
        for (int length = 5979; length <= 6000; length++) {
            WordTongue y = new WordTongue();
            for (int i = 0; i < 300; i++) {
                y.feed(0x20202020, 0x20202020, 0x20202020, 0x20202020, 0x20202020);
            }
            y.end(length);
            Check.due("feed at " + length, y.feed(0, 0, 0, 0, 0), length <= 5980);
            Check.due("end behind it", y.end(length + 1), length <= 5980);
            Check.due("input behind it", y.input(1), length <= 5980 ? length + 1 : length);
        }
        WordTongue z = new WordTongue();
        z.feed(0x00010203, 0x7F80FEFF, MIN, MAX, -1);
        Check.due("twenty bytes", z.input(0), 20);
        Check.compile(z, Check.start("FOR i = 1 TO 21 DO $( WRITEN(RDCH()); WRCH(32) $)"));
        z.run(1000);
        Check.due("the highest first", Check.out(z, 0), "0 1 2 3 127 128 254 255 128 0 0 0 127 255 255 255 255 255 255 255 -1 ");
    }

    /** "Of the tape only the first n bytes count ...; false, changing nothing, when it has not so many, or n is below 0". */
    private static void ending() {
        for (int n : new int[] {0, 1, 19, 20, 21, 39, 40}) {
            WordTongue x = new WordTongue();
            x.feed(0x41414141, 0x41414141, 0x41414141, 0x41414141, 0x41414141);
            x.feed(0x42424242, 0x42424242, 0x42424242, 0x42424242, 0x42424242);
            for (int wrong : new int[] {41, 42, 60, 6000, 6001, MAX, -1, -20, MIN}) {
                Check.due("end(" + wrong + ") of forty", x.end(wrong), false);
            }
            Check.due("end(" + n + ")", x.end(n), true);
            Check.due("end(" + (n + 1) + ") behind it", x.end(n + 1), false);
            Check.due("end(" + n + ") again", x.end(n), true);
            x.feed(0x43434343, 0x43434343, 0x43434343, 0x43434343, 0x43434343);
            Check.due("end behind what came then", x.end(n + 20), true);
            Check.due("input", x.input(2), n + 20);
            Check.compile(x, Check.start("SELECTINPUT(2); FOR i = 1 TO " + (n + 20) + " DO WRCH(RDCH()); WRITEN(RDCH())"));
            x.run(1000);
            String all = Check.times("A", 20) + Check.times("B", 20);
            Check.due("bytes", Check.out(x, 0), all.substring(0, n) + Check.times("C", 20) + "-1");
        }
    }

    /** What was fed behind the first n bytes is no part of the text: it ends no token and begins none. */
    private static void cutTexts() {
        String[] texts = {"LET START() BE $(A1 LET a := 5 // end\n WRITES(\"a*Nb\") $)A1 ", "GLOBAL $( G:#X1F $);LET START()BE G:='*N'<<2>=3->4,~=5 // c",
            "LET START()='a';'*'' ; // \"\" * \"*\"\" $$()$($)", "LET START() = #17 ~= #XAB // x\nAND F() = \"ab\" >> 3 <= 4 << 5"};
        for (String text : texts) {
            for (int n = 0; n <= text.length(); n++) {
                WordTongue cut = new WordTongue();
                Check.feed(cut, text);
                Check.due("end(" + n + ")", cut.end(n), true);
                WordTongue fed = new WordTongue();
                int answer = Check.compile(fed, text.substring(0, n));
                Check.due("compile of the first " + n + " of <" + text + ">", cut.compile(), answer);
                Check.due("fault of the first " + n + " of <" + text + ">", cut.fault(), fed.fault());
                Check.due("no place behind the end", -1 - answer <= n, true);
            }
        }
        // A sign, a comment, a name, a number, a 'C' and a string that the end cuts.
        String[][] rows = {{"LET START() = 1 /", "/ x", "2"}, {"LET START() = 1 -", "> 2, 3", "2"}, {"LET START() = F", "G", "3"}, {"LET START() = 1", "2", "0"}, {"LET START() = 'a", "'", "1"},
            {"LET START() = \"ab", "\"", "1"}, {"LET START() = #", "7", "1"}, {"LET START() = #X", "7", "1"}, {"LET START() = '*", "N'", "1"}, {"LET START() BE $", "( $)", "1"},
            {"LET START() BE $( $", ")", "1"}, {"LET START() BE $(A $)", "A", "0"}, {"LET START() = 1 ~", "= 2", "2"}, {"LET START() BE FINIS", "H", "2"}, {"LET START() BE FINISH", "ED()", "0"}};
        for (String[] row : rows) {
            WordTongue x = new WordTongue();
            Check.feed(x, row[0] + row[1]);
            x.end(row[0].length());
            x.compile();
            Check.due("fault of <" + row[0] + ">", x.fault(), Integer.parseInt(row[2]));
        }
    }

    /** "how many words ... (globals too); -1 - the place of a fault (of an empty tape 2 at 0): nothing is compiled then. What the latest run left stays". */
    private static void compiling() {
        WordTongue x = new WordTongue();
        Check.input(x, 0, "abc");
        Check.compile(x, Check.start("WRCH(RDCH()); SELECTOUTPUT(1); WRITES(\"two\"); !4095 := 5; STOP(8)"));
        Check.due("run", x.run(50), 6);
        String[] texts = {"", "?", ")", "LET START() BE x()", "LET START() BE $( LET a, a = 1, 2 $)", "LET START(a) BE $( LET f() = a; FINISH $)", "LET START() BE BREAK", "LET F() = 1", "LET START() = 1"};
        int[] answers = {-1, -1, -1, -16, -26, -30, -16, -1, 101};
        int[] faults = {2, 1, 2, 3, 4, 5, 6, 7, 0};
        for (int i = 0; i < texts.length; i++) {
            Check.due("compile of <" + texts[i] + ">", Check.compile(x, texts[i]), answers[i]);
            Check.due("fault", x.fault(), faults[i]);
            Check.due("the tape is empty", x.end(1), false);
            Check.due("value stays", x.value(), 8);
            Check.due("fuel stays", x.fuel(), 50 - 6);
            Check.due("out(0) stays", Check.out(x, 0), "a");
            Check.due("out(1) stays", Check.out(x, 1), "two");
            Check.due("word stays", x.word(4095), 5);
            if (faults[i] != 0) {
                Check.due("nothing is compiled", x.run(50), -1);
                Check.due("and nothing is changed", x.fuel(), 50 - 6);
                Check.due("the fault stays", x.fault(), faults[i]);
            }
        }
        Check.due("run", x.run(50), 0);
        Check.due("value", x.value(), 1);
        Check.due("out", x.out(0) + x.out(1), 0);
        Check.due("a word", x.word(4095), 0);
        Check.compile(x, Check.start("WRCH(RDCH())"));
        x.run(50);
        Check.due("the input is where it was", Check.out(x, 0), "b");
    }

    /** "The store has so many words (4096, 8192, 16384, 32768, 65536) from the next compiling on; false for another number". */
    private static void sizes() {
        int[] good = {4096, 8192, 16384, 32768, 65536};
        for (int words : good) {
            WordTongue x = new WordTongue();
            for (int wrong : new int[] {words - 1, words + 1, -words, words * 3, words / 8 * 7, MIN, MAX, 0, 1, 2, 2048, 131072, 1 << 30}) {
                Check.due("store(" + wrong + ")", x.store(wrong), false);
            }
            Check.due("store(" + words + ")", x.store(words), true);
            for (int wrong : new int[] {words - 1, words + 1, 0, -1, 2048, 131072}) {
                Check.due("store(" + wrong + ") changes nothing", x.store(wrong), false);
            }
            Check.compile(x, Check.start("!" + (words - 1) + " := 3; WRITEN(GETVEC(0)); WRITEN(!" + words + ")"));
            Check.due("run", x.run(50), 2);
            Check.due("the highest word", Check.out(x, 0), "" + (words - 1));
            Check.due("it", x.word(words - 1), 3);
            Check.due("none behind", Check.hasWord(x, words), false);
            for (int other : good) {
                x.store(other);
                Check.due("run of what was compiled", x.run(50), 2);
                Check.due("has its own store", Check.out(x, 0), "" + (words - 1));
                Check.due("and so has word", Check.hasWord(x, words), false);
                Check.due("up to its end", x.word(words - 1), 3);
            }
        }
    }

    /** "The tape (empty then) is input k (0 .. 3), from its beginning: how many bytes; NONE for another k (the tape is empty, too)". */
    private static void inputs() {
        String show = Check.start("FOR k = 0 TO 3 DO $( SELECTINPUT(k); WRCH(RDCH()); WRCH(RDCH()) $)");
        for (int k : new int[] {MIN, -1, 0, 1, 2, 3, 4, MAX}) {
            WordTongue x = new WordTongue();
            for (int i = 0; i < 4; i++) {
                Check.due("input(" + i + ")", Check.input(x, i, "abcd".substring(i)), 4 - i);
            }
            boolean good = k >= 0 && k <= 3;
            Check.due("input(" + k + ")", Check.input(x, k, "XYZ"), good ? 3 : -1);
            Check.due("the tape is empty", x.end(1), false);
            Check.compile(x, show);
            x.run(100);
            StringBuilder due = new StringBuilder();
            for (int i = 0; i < 4; i++) {
                due.append(i == k ? "XY" : ("abcd".substring(i) + "\u00ff").substring(0, 2));
            }
            Check.due("what is read", Check.out(x, 0), due.toString());
            Check.due("input(" + k + ") of nothing", x.input(k), good ? 0 : -1);
            x.run(100);
            Check.due("what is read then", Check.out(x, 0).charAt(0), k == 0 ? 255 : 'c');
        }
        WordTongue y = new WordTongue();
        Check.due("no bytes", y.input(3), 0);
        Check.due("6000 bytes", Check.input(y, 3, Check.times("x", 6000)), 6000);
        Check.due("one byte", Check.input(y, 3, "y"), 1);
        Check.compile(y, Check.start("SELECTINPUT(3); WRCH(RDCH()); WRITEN(RDCH())"));
        y.run(100);
        Check.due("the last one counts", Check.out(y, 0), "y-1");
    }

    /** "with so much fuel (0 .. 100000): 0 at its end, else the error; 6 by STOP; NONE, changing nothing, when nothing is compiled, or another number". */
    private static void running() {
        WordTongue x = new WordTongue();
        Check.input(x, 0, "abcdef");
        Check.compile(x, "STATIC $( S = 1 $); LET START() = VALOF $( WRCH(RDCH()); S := S + 1; GETVEC(9); SELECTINPUT(2); SELECTOUTPUT(1); WRITEN(S); RESULTIS S + 40 $)");
        Check.due("run(100000)", x.run(100000), 0);
        for (int wrong : new int[] {-1, 100001, 100002, MIN, MAX, -100000}) {
            Check.due("run(" + wrong + ")", x.run(wrong), -1);
            Check.due("value stays", x.value(), 42);
            Check.due("fuel stays", x.fuel(), 100000 - 8);
            Check.due("outputs stay", Check.out(x, 0) + Check.out(x, 1), "a2");
            Check.due("words stay", x.word(100), 2);
        }
        Check.due("run(8)", x.run(8), 0);
        Check.due("its byte is the next one, its store as at first", Check.out(x, 0) + Check.out(x, 1), "b2");
        Check.due("fuel", x.fuel(), 0);
        Check.due("run(7)", x.run(7), 1);
        Check.due("outputs", Check.out(x, 0) + Check.out(x, 1), "c2");
        Check.due("value", x.value(), 0);
        Check.due("run(1)", x.run(1), 1);
        Check.due("outputs", Check.out(x, 0) + Check.out(x, 1), "");
        Check.due("run(2)", x.run(2), 1);
        Check.due("outputs", Check.out(x, 0) + Check.out(x, 1), "d");
        Check.due("run(0)", x.run(0), 1);
        Check.due("fuel", x.fuel(), 0);
        Check.due("a static as at first", x.word(100), 1);
    }

    /** "How many bytes the latest run put out at k (0, 1), 4096 at most, 0 before any; NONE for another k"; "Byte i of these, 0 .. 255". */
    private static void outputs() {
        for (int count : new int[] {0, 1, 2, 255, 256, 257, 4095, 4096, 4097}) {
            WordTongue x = new WordTongue();
            Check.compile(x, Check.start("SELECTOUTPUT(1); FOR i = 1 TO " + count + " DO WRCH(i)"));
            Check.due("run", x.run(100000), 0);
            int length = Math.min(count, 4096);
            Check.due("out(0)", x.out(0), 0);
            Check.due("out(1)", x.out(1), length);
            for (int k : new int[] {MIN, -1, 2, 3, MAX}) {
                Check.due("out(" + k + ")", x.out(k), -1);
                Check.due("outAt(" + k + ", 0)", Check.hasOut(x, k, 0), false);
            }
            for (int i : new int[] {MIN, -1, length, length + 1, 6000, MAX}) {
                Check.due("outAt(1, " + i + ")", Check.hasOut(x, 1, i), false);
            }
            Check.due("outAt(0, 0)", Check.hasOut(x, 0, 0), false);
            for (int i = 0; i < length; i++) {
                boolean isNearAnEnd = i < 100 || i >= length - 100 || i % 256 < 2;
                if (isNearAnEnd) {
                    Check.due("outAt(1, " + i + ")", x.outAt(1, i), i + 1 & 255);
                }
            }
        }
    }

    /** "as many as at the latest compiling without a fault, 4096 ahead of any; those that the run had not are 0". */
    private static void words() {
        int[] good = {4096, 8192, 16384, 32768, 65536};
        for (int first : good) {
            for (int second : good) {
                WordTongue x = Check.sized(first, Check.start("!" + (first - 1) + ", !3000, !4095 := 7, 8, 9"));
                Check.due("ahead of a run", x.word(first - 1), 0);
                Check.due("run", x.run(10), 0);
                x.store(second);
                Check.compile(x, "LET START() = nothing");
                Check.due("a fault changes no size", Check.hasWord(x, first - 1) && !Check.hasWord(x, first), true);
                Check.compile(x, "LET START() = 1");
                Check.due("the last word now", Check.hasWord(x, second - 1), true);
                Check.due("none behind", Check.hasWord(x, second), false);
                Check.due("none ahead of 0", Check.hasWord(x, -1), false);
                Check.due("what the run left", x.word(3000), 8);
                Check.due("what the run left at 4095", x.word(4095), 9);
                int last = second == 4096 ? 9 : second == first ? 7 : 0;
                Check.due("what it left at the end, or had not", x.word(second - 1), last);
                Check.due("run", x.run(10), 0);
                Check.due("as at first", x.word(3000) + x.word(4095) + x.word(second - 1), 0);
                Check.due("START's entry", x.word(100), 1000000);
            }
        }
    }
}
