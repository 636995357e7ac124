/** The calls of the face: promises 1, 2, 3, 6, 7, 10, 11, 12 and 13, at ordinary numbers, at edges, and at wrong ones. */
public final class FaceTest {
    public static void main(String[] args) {
        newObject();
        feedAndEnd();
        compileAndFault();
        storeSizes();
        inputs();
        outputs();
        words();
        latestRunStays();
        Check.end();
    }

    private static void newObject() {
        WordTongue x = new WordTongue();
        Check.due("NONE", WordTongue.NONE, -1);
        Check.due("fault of a new object", x.fault(), 0);
        Check.due("run of a new object", x.run(100), -1);
        Check.due("value of a new object", x.value(), 0);
        Check.due("out(0) of a new object", x.out(0), 0);
        Check.due("out(1) of a new object", x.out(1), 0);
        Check.due("out(2)", x.out(2), -1);
        Check.due("out(-1)", x.out(-1), -1);
        Check.due("fuel of a new object", x.fuel(), 0);
        Check.due("outAt(0, 0) of a new object", Check.hasOut(x, 0, 0), false);
        Check.due("outAt(7, 0)", Check.hasOut(x, 7, 0), false);
        Check.due("outAt(7, -1)", Check.hasOut(x, 7, -1), false);
        Check.due("word(0) of a new object", x.word(0), 0);
        Check.due("word(4095) of a new object", x.word(4095), 0);
        Check.due("word(4096) of a new object", Check.hasWord(x, 4096), false);
        Check.due("word(-1)", Check.hasWord(x, -1), false);
        Check.due("end(1) of an empty tape", x.end(1), false);
        Check.due("end(0) of an empty tape", x.end(0), true);
        Check.due("input of an empty tape", x.input(0), 0);
        Check.due("compile of an empty tape", x.compile(), -1);
        Check.due("fault of an empty tape", x.fault(), 2);
    }

    private static void feedAndEnd() {
        WordTongue x = new WordTongue();
        for (int i = 0; i < 300; i++) {
            Check.due("feed " + i, x.feed(i, i, i, i, i), true);
        }
        Check.due("feed of 6020", x.feed(1, 2, 3, 4, 5), false);
        Check.due("end(6001)", x.end(6001), false);
        Check.due("end(-1)", x.end(-1), false);
        Check.due("end(5981)", x.end(5981), true);
        Check.due("feed of 6001", x.feed(1, 2, 3, 4, 5), false);
        Check.due("end(5982) after end(5981)", x.end(5982), false);
        Check.due("end(5980)", x.end(5980), true);
        Check.due("feed of 6000", x.feed(1, 2, 3, 4, 5), true);
        Check.due("input of 6000", x.input(2), 6000);
        Check.due("the tape is empty", x.end(1), false);

        // What is fed behind an end comes behind the bytes that count.
        WordTongue y = new WordTongue();
        y.feed(0x61626364, 0x65666768, 0x80FF007F, -1, 0);
        y.end(10);
        y.feed(0x30313233, 0, 0, 0, 0);
        Check.due("end(30) of thirty", y.end(30), true);
        y.end(14);
        Check.due("input of fourteen", y.input(3), 14);
        Check.compile(y, Check.start("SELECTINPUT(3); FOR I = 1 TO 15 DO $( WRITEN(RDCH()); WRCH('.') $)"));
        y.run(1000);
        Check.due("bytes fed", Check.out(y, 0), "97.98.99.100.101.102.103.104.128.255.48.49.50.51.-1.");
    }

    private static void compileAndFault() {
        WordTongue x = new WordTongue();
        Check.due("compile", Check.compile(x, "STATIC $( A = 1; B = 2 $); LET START() = A + B"), 103);
        Check.due("fault", x.fault(), 0);
        Check.due("the tape is empty behind compile", x.end(1), false);
        Check.due("run", x.run(10), 0);
        Check.due("value", x.value(), 3);
        Check.due("compile with a fault", Check.compile(x, "LET START() = C"), -15);
        Check.due("fault", x.fault(), 3);
        Check.due("the tape is empty behind a fault", x.end(1), false);
        Check.due("nothing is compiled", x.run(10), -1);
        Check.due("value stays", x.value(), 3);
        Check.due("fuel stays", x.fuel(), 9);
        Check.due("compile of nothing", x.compile(), -1);
        Check.due("fault of nothing", x.fault(), 2);
        Check.due("compile again", Check.compile(x, "LET START() = 8"), 101);
        Check.due("fault again", x.fault(), 0);
        Check.due("value stays till the run", x.value(), 3);
        Check.due("run again", x.run(10), 0);
        Check.due("value again", x.value(), 8);
        Check.due("run of -1", x.run(-1), -1);
        Check.due("run of 100001", x.run(100001), -1);
        Check.due("value stays", x.value(), 8);
        Check.due("run of 100000", x.run(100000), 0);
        Check.due("fuel", x.fuel(), 99999);
        Check.due("run of 0", x.run(0), 1);
        Check.due("value of an error", x.value(), 0);
        Check.due("fuel of an error", x.fuel(), 0);
        Check.due("a place behind the first hundred", Check.compile(x, Check.times(" ", 5000) + "LET START() = A"), -5015);
    }

    private static void storeSizes() {
        int[] good = {4096, 8192, 16384, 32768, 65536};
        int[] bad = {0, 1, -1, 2048, 4095, 4097, 12288, 65535, 131072, Integer.MIN_VALUE, Integer.MAX_VALUE};
        WordTongue x = new WordTongue();
        for (int words : bad) {
            Check.due("store(" + words + ")", x.store(words), false);
        }
        Check.due("word(4095)", Check.hasWord(x, 4095), true);
        for (int words : good) {
            Check.due("store(" + words + ")", x.store(words), true);
            Check.compile(x, "LET START() = GETVEC(0)");
            Check.due("the last word", Check.hasWord(x, words - 1), true);
            Check.due("one behind the last word", Check.hasWord(x, words), false);
            Check.due("the last word before a run", x.word(words - 1), 0);
            Check.due("run", x.run(10), 0);
            Check.due("the highest vector", x.value(), words - 1);
        }
        // Told now, in force from the next compiling on; asked for from the next good one on.
        Check.due("store(4096)", x.store(4096), true);
        Check.due("run of what was compiled before", x.run(10), 0);
        Check.due("the highest vector still", x.value(), 65535);
        Check.compile(x, "LET START() = X");
        Check.due("a fault changes no size", Check.hasWord(x, 65535), true);
        Check.compile(x, "LET START() BE !4095 := 77");
        Check.due("a good compiling does", Check.hasWord(x, 4096), false);
        Check.due("run", x.run(10), 0);
        Check.due("word(4095)", x.word(4095), 77);
        x.store(8192);
        Check.compile(x, "LET START() BE !8191 := 5");
        Check.due("a word that the latest run had", x.word(4095), 77);
        Check.due("a word that the latest run had not", x.word(8191), 0);
        x.run(10);
        Check.due("a word that this run has", x.word(8191), 5);
        x.store(4096);
        Check.compile(x, "LET START() BE FINISH");
        x.store(8192);
        Check.compile(x, "LET START() BE FINISH");
        Check.due("a word behind the latest run's size", x.word(8191), 5);
    }

    private static void inputs() {
        WordTongue x = new WordTongue();
        Check.due("input(0)", Check.input(x, 0, "abc"), 3);
        Check.due("input(3)", Check.input(x, 3, "de"), 2);
        Check.due("input(4)", Check.input(x, 4, "fgh"), -1);
        Check.due("the tape is empty behind a wrong input", x.end(1), false);
        Check.due("input(-1)", Check.input(x, -1, "fgh"), -1);
        Check.due("the tape is empty behind a wrong input", x.end(1), false);
        Check.compile(x, Check.start("WRCH(RDCH()); SELECTINPUT(3); WRCH(RDCH())"));
        x.run(100);
        Check.due("first bytes", Check.out(x, 0), "ad");
        x.run(100);
        Check.due("inputs are from where they are", Check.out(x, 0), "be");
        Check.due("input(0) anew", Check.input(x, 0, "xyz"), 3);
        x.run(100);
        Check.due("input 0 from its beginning, input 3 at its end", Check.out(x, 0), "x\u00ff");
    }

    private static void outputs() {
        WordTongue x = new WordTongue();
        Check.compile(x, Check.start("WRITES(\"one\"); SELECTOUTPUT(1); WRCH(255); WRCH(256); WRCH(-2)"));
        x.run(100);
        Check.due("out(0)", x.out(0), 3);
        Check.due("out(1)", x.out(1), 3);
        Check.due("outAt(1, 0)", x.outAt(1, 0), 255);
        Check.due("outAt(1, 1)", x.outAt(1, 1), 0);
        Check.due("outAt(1, 2)", x.outAt(1, 2), 254);
        Check.due("outAt(1, 3)", Check.hasOut(x, 1, 3), false);
        Check.due("outAt(1, -1)", Check.hasOut(x, 1, -1), false);
        Check.due("outAt(2, 0)", Check.hasOut(x, 2, 0), false);
        Check.due("outAt(-1, 0)", Check.hasOut(x, -1, 0), false);
        Check.due("outAt(0, MAX)", Check.hasOut(x, 0, Integer.MAX_VALUE), false);
        Check.compile(x, Check.start("FOR I = 1 TO 4100 DO WRCH(I); SELECTOUTPUT(1); WRITEN(1)"));
        Check.due("run", x.run(100000), 0);
        Check.due("out(0) is full", x.out(0), 4096);
        Check.due("the last byte", x.outAt(0, 4095), 0);
        Check.due("the byte ahead", x.outAt(0, 4094), 255);
        Check.due("outAt(0, 4096)", Check.hasOut(x, 0, 4096), false);
        Check.due("out(1) has room of its own", x.out(1), 1);
    }

    private static void words() {
        WordTongue x = new WordTongue();
        Check.compile(x, "GLOBAL $( G: 99 $); LET START() BE G := 17");
        Check.due("a word ahead of a run", x.word(100), 0);
        x.run(10);
        Check.due("a global", x.word(99), 17);
        Check.due("START's entry", x.word(100), 1000000);
        Check.due("START's caller's B", x.word(101), 0);
        Check.due("START's frame tells its entry", x.word(102), 1000000);
        Check.compile(x, "LET START() BE FINISH");
        Check.due("compiling leaves the store", x.word(99), 17);
        x.run(10);
        Check.due("a run begins with the store as at first", x.word(99), 0);
        // Whatever the latest run was in when it ended.
        Check.compile(x, "LET F(n) = n = 0 -> 1 / 0, F(n - 1) + 1; LET START() BE F(5)");
        for (int i = 0; i < 3; i++) {
            Check.due("run to error 3", x.run(50), 3);
            Check.due("START's caller's B", x.word(102), 0);
            Check.due("F's caller's B", x.word(104), 102);
            Check.due("fuel", x.fuel(), 50 - 8);
        }
    }

    private static void latestRunStays() {
        WordTongue x = new WordTongue();
        Check.compile(x, Check.start("WRITES(\"out\"); STOP(9)"));
        Check.due("run with STOP", x.run(50), 6);
        Check.due("value of STOP", x.value(), 9);
        Check.compile(x, "?");
        Check.due("fault 1", x.fault(), 1);
        Check.due("value", x.value(), 9);
        Check.due("out", Check.out(x, 0), "out");
        Check.due("fuel", x.fuel(), 47);
        Check.due("word", x.word(100), 1000000);
        Check.due("run of nothing", x.run(50), -1);
        Check.due("out still", x.out(0), 3);
    }
}
