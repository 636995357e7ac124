import java.util.NoSuchElementException;

/** What all tests use: feeds texts, runs them, and counts the answers that are not due. */
final class Check {
    private static int wrong = 0;
    private static int asked = 0;

    private Check() {
    }

    static void due(String what, long got, long want) {
        asked++;
        if (got != want) {
            wrong++;
            System.out.println(brief(what) + ": answered " + got + ", due is " + want);
        }
    }

    static void due(String what, boolean got, boolean want) {
        due(what, got ? 1 : 0, want ? 1 : 0);
    }

    static void due(String what, String got, String want) {
        asked++;
        if (!got.equals(want)) {
            wrong++;
            System.out.println(brief(what) + ": answered <" + got + ">, due is <" + want + ">");
        }
    }

    /** Long texts are told by their two ends. */
    private static String brief(String what) {
        int length = what.length();
        return length < 400 ? what : what.substring(0, 190) + " .. " + what.substring(length - 190);
    }

    static void end() {
        System.out.println(asked + " answers asked for, " + wrong + " wrong");
        if (wrong > 0) {
            System.exit(1);
        }
    }

    /** Feeds a text of bytes 0 .. 255 on an empty tape. */
    static void feed(WordTongue x, String text) {
        for (int i = 0; i < text.length(); i += 20) {
            x.feed(four(text, i), four(text, i + 4), four(text, i + 8), four(text, i + 12), four(text, i + 16));
        }
        x.end(text.length());
    }

    private static int four(String text, int from) {
        int word = 0;
        for (int i = from; i < from + 4; i++) {
            word = word << 8 | (i < text.length() ? text.charAt(i) & 255 : 0);
        }
        return word;
    }

    static int compile(WordTongue x, String text) {
        feed(x, text);
        return x.compile();
    }

    static int input(WordTongue x, int k, String text) {
        feed(x, text);
        return x.input(k);
    }

    static String out(WordTongue x, int k) {
        return lastOut(x, k, Integer.MAX_VALUE);
    }

    /** The last bytes put out, so many at most: an object is used for 512 calls, and no more. */
    static String lastOut(WordTongue x, int k, int most) {
        StringBuilder all = new StringBuilder();
        int count = x.out(k);
        for (int i = Math.max(0, count - most); i < count; i++) {
            all.append((char) x.outAt(k, i));
        }
        return all.toString();
    }

    /** The fault and its place, as "fault@place"; "ok" and the words in use when there is none. */
    static String compiled(String text) {
        WordTongue x = new WordTongue();
        int answer = compile(x, text);
        return x.fault() == 0 ? "ok " + answer : x.fault() + "@" + (-1 - answer);
    }

    static void fault(String text, int fault, int place) {
        due("compile of <" + text + ">", compiled(text), fault + "@" + place);
    }

    /** The fault stands where the mark ^ does, which is no part of the text. */
    static void fault(String marked, int fault) {
        int place = marked.indexOf('^');
        fault(marked.substring(0, place) + marked.substring(place + 1), fault, place);
    }

    /** All tokens can stand: a fault there may be, but none of the first two. */
    static void stands(String text) {
        String got = compiled(text);
        due("tokens of <" + text + ">", got.startsWith("1@") || got.startsWith("2@") ? got : "stand", "stand");
    }

    static void good(String text) {
        String got = compiled(text);
        due("compile of <" + text + ">", got.startsWith("ok") ? "ok" : got, "ok");
    }

    /** A text whose run ends well puts this out, and so does the text within LET START() BE $( $). */
    static void prints(String text, String want) {
        WordTongue x = new WordTongue();
        int answer = compile(x, text);
        due("compile of <" + text + ">, fault", x.fault(), 0);
        if (answer > 0) {
            due("run of <" + text + ">", x.run(100000), 0);
            due("output of <" + text + ">", out(x, 0), want);
        }
    }

    static void does(String commands, String want) {
        prints(start(commands), want);
    }

    static String start(String commands) {
        return "LET START() BE $( " + commands + " $)";
    }

    /** An object with a store of so many words, in which this text is compiled. */
    static WordTongue sized(int words, String text) {
        WordTongue x = new WordTongue();
        due("store(" + words + ")", x.store(words), true);
        compile(x, text);
        due("compile of <" + text + ">, fault", x.fault(), 0);
        return x;
    }

    /** A text whose run in a store of so many words answers this, having put this out. */
    static void ends(int words, String text, int answer, String want) {
        WordTongue x = sized(words, text);
        due("run of <" + text + "> with " + words + " words", x.run(100000), answer);
        due("output of <" + text + "> with " + words + " words", out(x, 0), want);
    }

    /** A text whose run ends with this error, having put this out. */
    static void fails(String text, int error, String want) {
        WordTongue x = new WordTongue();
        compile(x, text);
        due("compile of <" + text + ">, fault", x.fault(), 0);
        due("run of <" + text + ">", x.run(100000), error);
        due("output of <" + text + ">", out(x, 0), want);
    }

    /** The fuel that a run to the end takes. */
    static void takes(String text, int fuel) {
        WordTongue x = new WordTongue();
        compile(x, text);
        due("compile of <" + text + ">, fault", x.fault(), 0);
        due("run of <" + text + ">", x.run(1000), 0);
        due("fuel of <" + text + ">", 1000 - x.fuel(), fuel);
        due("run with this fuel of <" + text + ">", x.run(fuel), 0);
        due("fuel left then", x.fuel(), 0);
        if (fuel > 0) {
            due("run with less fuel of <" + text + ">", x.run(fuel - 1), 1);
            due("fuel left then", x.fuel(), 0);
        }
    }

    static boolean hasOut(WordTongue x, int k, int i) {
        try {
            x.outAt(k, i);
            return true;
        } catch (NoSuchElementException none) {
            return false;
        }
    }

    static boolean hasWord(WordTongue x, int address) {
        try {
            x.word(address);
            return true;
        } catch (NoSuchElementException none) {
            return false;
        }
    }

    static String times(String part, int count) {
        StringBuilder all = new StringBuilder();
        for (int i = 0; i < count; i++) {
            all.append(part);
        }
        return all.toString();
    }
}
