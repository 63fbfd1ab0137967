/** Promises 39 and 40: sentences and of which promises they may be said. */
public final class SentenceTest {
    public static void main(String[] args) {
        plain();
        measures();
        joined();
        asItIs();
        stays();
        faults();
        limits();
        tooLong();
        Check.close();
    }

    private static void due(PromiseTrees x, String text, int ones, int... promises) {
        Check.due("ones of '" + text + "'", Check.sentence(x, text), ones);
        Check.due("no fault in '" + text + "'", x.fault(), 0);
        Check.due("how many: '" + text + "'", x.said(-1), promises.length);
        for (int k = 0; k < promises.length; k++) {
            Check.due(k + " of '" + text + "'", x.said(k), promises[k]);
        }
        Check.due("none such of '" + text + "'", x.said(promises.length), -1);
    }

    private static PromiseTrees mixed() {
        PromiseTrees x = Check.on(Check.WOOD);
        x.keep(0);
        x.free(1);
        x.breaks(3);
        return x;
    }

    private static void plain() {
        PromiseTrees x = mixed();
        due(x, "stands", 1, 2, 4);
        due(x, "kept", 1, 0);
        due(x, "fell", 1, 3);
        due(x, "stump", 1, 1);
        due(x, "shaded", 1, 0);
        due(x, "by ann", 1, 0, 3);
        due(x, "by bob", 1, 1, 4);
        due(x, "to cid", 1, 1, 3);
        due(x, "\n to ann ", 1, 2, 4);
    }

    private static void measures() {
        PromiseTrees x = mixed();
        due(x, "tall<20", 1, 1, 3);
        due(x, "tall = 20", 1, 0);
        due(x, "tall > 20", 1, 2, 4);
        due(x, "till<5", 1, 0, 3);
        due(x, "till=5", 1, 1);
        due(x, "till>5", 1, 2, 4);
        due(x, "number<1", 1, 0);
        due(x, "number=004", 1, 4);
        due(x, "number>2", 1, 3, 4);
        due(x, "number<999", 1, 0, 1, 2, 3, 4);
    }

    private static void joined() {
        PromiseTrees x = mixed();
        due(x, "not stands", 2, 0, 1, 3);
        due(x, "not not stands", 3, 2, 4);
        due(x, "by ann and kept", 2, 0);
        due(x, "kept or fell", 2, 0, 3);
        due(x, "kept or by bob and stump", 3, 0, 1);
        due(x, "stump and by bob or kept", 3, 0, 1);
        due(x, "(kept or by bob)and stump", 4, 1);
        due(x, "not kept and by ann", 3, 3);
        due(x, "not(kept or by bob)", 4, 2, 3);
        due(x, "not kept or kept", 3, 0, 1, 2, 3, 4);
        due(x, "kept and fell", 2);
        due(x, "kept or stump or fell or tall=40", 4, 0, 1, 3, 4);
        due(x, "((kept))", 3, 0);
    }

    private static void asItIs() {
        PromiseTrees x = Check.on(Check.WOOD);
        due(x, "kept", 1);
        x.keep(2);
        Check.due("said of what is so now", x.said(0), 2);
        x.undo();
        Check.due("and no more", x.said(-1), 0);
        for (int k : new int[] {-2, 5, 10, Integer.MAX_VALUE, Integer.MIN_VALUE}) {
            Check.due("none such", x.said(k), -1);
        }
        PromiseTrees y = new PromiseTrees();
        Check.due("no sentence", y.said(-1), -1);
        Check.due("no sentence", y.said(0), -1);
        due(y, "not kept", 2);
        Check.headland(y, "man a 0 0;");
        Check.due("no sentence on a new headland", y.said(-1), -1);
    }

    private static void stays() {
        PromiseTrees x = Check.on(Check.WOOD);
        Check.sentence(x, "number=3");
        Check.headland(x, "land 1 1;");
        Check.due("it stays behind a headland with a fault", x.said(0), 3);
        Check.sentence(x, "by");
        Check.due("and behind a sentence with one", x.said(0), 3);
    }

    private static void faults() {
        Check.sentenceFault("", 1, 0);
        Check.sentenceFault("  ", 1, 2);
        Check.sentenceFault("kept fell", 1, 5);
        Check.sentenceFault("kept or", 1, 7);
        Check.sentenceFault("kept and or fell", 1, 9);
        Check.sentenceFault("or kept", 1, 0);
        Check.sentenceFault("not", 1, 3);
        Check.sentenceFault("(kept", 1, 5);
        Check.sentenceFault("(kept or)", 1, 8);
        Check.sentenceFault("kept)", 1, 4);
        Check.sentenceFault("()", 1, 1);
        Check.sentenceFault("kept;", 1, 4);
        Check.sentenceFault("oak", 1, 0);
        Check.sentenceFault("broken", 1, 0);
        Check.sentenceFault("freed", 1, 0);
        Check.sentenceFault("land", 1, 0);
        Check.sentenceFault("by", 1, 2);
        Check.sentenceFault("by by", 1, 3);
        Check.sentenceFault("by 7", 1, 3);
        Check.sentenceFault("by dan", 3, 3);
        Check.sentenceFault("to oak", 3, 3);
        Check.sentenceFault("tall 5", 1, 5);
        Check.sentenceFault("tall ( 5", 1, 5);
        Check.sentenceFault("tall <", 1, 6);
        Check.sentenceFault("tall < ann", 1, 7);
        Check.sentenceFault("tall <= 5", 1, 6);
        Check.sentenceFault("tall < 1000", 1, 7);
        Check.sentenceFault("kept or 7", 1, 8);
    }

    private static void limits() {
        PromiseTrees x = mixed();
        String twenty = "kept or ".repeat(19) + "fell";
        due(x, twenty, 20, 0, 3);
        Check.sentenceFault(twenty + " or stump", 4, twenty.length() + 4);
        Check.sentenceFault(twenty + " or by dan", 4, twenty.length() + 4);
        Check.sentenceFault(twenty + " or dan", 1, twenty.length() + 4);
        Check.sentenceFault(twenty + " or", 1, twenty.length() + 3);
        due(x, "not ".repeat(7) + "kept", 8, 1, 2, 3, 4);
        Check.sentenceFault("not ".repeat(8) + "kept", 4, 32);
        Check.sentenceFault("not ".repeat(8) + "dan", 1, 32);
        due(x, "(".repeat(7) + "kept" + ")".repeat(7) + "or fell", 9, 0, 3);
        Check.sentenceFault("(".repeat(8) + "kept" + ")".repeat(8), 4, 8);
        Check.sentenceFault("(".repeat(9), 4, 8);
        Check.sentenceFault("not ( ".repeat(4) + "fell and kept", 4, 24);
        due(x, "not ( ".repeat(3) + "not fell" + ")".repeat(3), 8, 3);
    }

    private static void tooLong() {
        PromiseTrees x = mixed();
        due(x, "kept" + " ".repeat(196), 1, 0);
        due(x, " ".repeat(196) + "kept", 1, 0);
        Check.sentenceFault("kept" + " ".repeat(197), 1, 200);
        Check.sentenceFault(" ".repeat(197) + "kept", 1, 200);
        Check.sentenceFault(" ".repeat(199) + "broken", 1, 199);
        Check.sentenceFault(" ".repeat(196) + "by dan", 3, 199);
        Check.sentenceFault(" ".repeat(197) + "by dan", 1, 200);
        Check.sentenceFault("kept" + " ".repeat(195) + "fell", 1, 199);
    }
}
