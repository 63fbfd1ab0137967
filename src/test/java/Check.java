import java.nio.charset.StandardCharsets;
import java.util.NoSuchElementException;

/** What all tests use: answers that are due, texts put on the tape, and a few headlands. */
final class Check {
    /** The headland that most tests are told on. */
    static final String WOOD = "land 6 5;man ann 0 0;man bob 5 0;man cid 0 4;"
        + "promise oak ann bob 1 0 20 3;promise elm bob cid 3 0 15 5;promise ash cid ann 2 2 30 9;"
        + "promise fir ann cid 1 4 8 3;promise yew bob ann 1 3 40 20;clash oak fir;grows 2;storm 0;";

    private static int wrong = 0;
    private static int right = 0;

    private Check() {
    }

    static void due(String what, long got, long want) {
        if (got == want) {
            right++;
        } else {
            wrong++;
            System.out.println(what + ": answered " + got + ", due is " + want);
        }
    }

    static void due(String what, boolean got, boolean want) {
        due(what, got ? 1 : 0, want ? 1 : 0);
    }

    /** Ends the test: exit code 1, if an answer was not as due. */
    static void close() {
        System.out.println(right + " answers as due, " + wrong + " not");
        if (wrong != 0) {
            System.exit(1);
        }
    }

    /** Puts a text behind the tape, whatever its length. */
    static void put(PromiseTrees x, String text) {
        put(x, text.getBytes(StandardCharsets.ISO_8859_1));
    }

    static void put(PromiseTrees x, byte[] text) {
        int had = x.count(7);
        for (int i = 0; i < text.length; i += 20) {
            x.feed(four(text, i), four(text, i + 4), four(text, i + 8), four(text, i + 12), four(text, i + 16));
        }
        due("end behind a text", x.end(had + text.length), true);
    }

    static int four(byte[] text, int from) {
        int number = 0;
        for (int i = from; i < from + 4; i++) {
            number = number << 8 | (i < text.length ? text[i] & 255 : 0);
        }
        return number;
    }

    static int headland(PromiseTrees x, String text) {
        put(x, text);
        return x.headland();
    }

    static int book(PromiseTrees x, String text, int lives) {
        put(x, text);
        return x.book(lives);
    }

    static int sentence(PromiseTrees x, String text) {
        put(x, text);
        return x.sentence();
    }

    static int sworn(PromiseTrees x, int... bytes) {
        byte[] row = new byte[bytes.length];
        for (int i = 0; i < bytes.length; i++) {
            row[i] = (byte) bytes[i];
        }
        put(x, row);
        return x.sworn();
    }

    static PromiseTrees on(String text) {
        PromiseTrees x = new PromiseTrees();
        due("a headland that has no fault", headland(x, text) >= 0, true);
        return x;
    }

    static void headlandFault(String text, int kind, int place) {
        PromiseTrees x = on(WOOD);
        due("place of the fault in headland '" + text + "'", headland(x, text), -1 - place);
        due("kind of the fault in headland '" + text + "'", x.fault(), kind);
        due("the headland stays behind a fault", x.count(1), 5);
        due("the tape is empty behind a fault", x.count(7), 0);
    }

    static void bookFault(String text, int kind, int place) {
        PromiseTrees x = on(WOOD);
        due("place of the fault in book '" + text + "'", book(x, text, 1), -2 - place);
        due("kind of the fault in book '" + text + "'", x.fault(), kind);
        due("nothing is lived behind a fault", x.undo(), -1);
        due("the tape is empty behind a fault", x.count(7), 0);
    }

    static void sentenceFault(String text, int kind, int place) {
        PromiseTrees x = on(WOOD);
        sentence(x, "number = 4");
        due("place of the fault in sentence '" + text + "'", sentence(x, text), -1 - place);
        due("kind of the fault in sentence '" + text + "'", x.fault(), kind);
        due("the sentence stays behind a fault", x.said(0), 4);
        due("the tape is empty behind a fault", x.count(7), 0);
    }

    static boolean throwsForPromise(PromiseTrees x, int p, int what) {
        try {
            x.promise(p, what);
            return false;
        } catch (NoSuchElementException e) {
            return true;
        }
    }

    static boolean throwsForMan(PromiseTrees x, int m, int what) {
        try {
            x.man(m, what);
            return false;
        } catch (NoSuchElementException e) {
            return true;
        }
    }
}
