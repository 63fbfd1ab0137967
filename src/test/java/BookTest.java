/** Promises 37 and 38: a book judged or lived line by line, and what is told of it. */
public final class BookTest {
    public static void main(String[] args) {
        judged();
        lived();
        reasons();
        told();
        faults();
        tooLong();
        Check.close();
    }

    private static void dueTold(PromiseTrees x, int why, int fine, int day, int fell) {
        int[] due = {why, fine, day, fell};
        for (int w = 0; w < 4; w++) {
            Check.due("told " + w, x.told(w), due[w]);
        }
    }

    private static void judged() {
        PromiseTrees x = Check.on(Check.WOOD);
        Check.due("none is wrong", Check.book(x, "oak kept;ash watered;day 1;yew broken;", 0), -1);
        dueTold(x, 0, 4, 1, 19);
        Check.due("all stays", x.now(1), 31);
        Check.due("day 0", x.now(0), 0);
        Check.due("nothing to undo", x.undo(), -1);
        Check.due("the tape is empty", x.count(7), 0);
        Check.due("the third is wrong", Check.book(x, "oak kept; day 1 ;\nfir kept;yew broken;", 0), 2);
        dueTold(x, 2, 2, 1, 0);
        Check.due("an empty one", Check.book(x, "", 0), -1);
        dueTold(x, 0, 0, 0, 0);
        for (int lives : new int[] {2, -1, Integer.MAX_VALUE, Integer.MIN_VALUE}) {
            Check.put(x, "day 1;");
            Check.due("another lives", x.book(lives), -1000);
            Check.due("the tape stays", x.count(7), 6);
            x.end(0);
        }
        dueTold(x, 0, 0, 0, 0);
    }

    private static void lived() {
        PromiseTrees x = Check.on(Check.WOOD);
        Check.due("none is wrong", Check.book(x, "oak kept;ash watered;day 1;yew broken;", 1), -1);
        dueTold(x, 0, 4, 1, 19);
        Check.due("lived", x.now(3), 19);
        Check.due("the day", x.now(0), 1);
        Check.due("all at once undone", x.undo(), 0);
        Check.due("as it was", x.now(1), 31);
        Check.due("told stays", x.told(2), 1);
        Check.due("the second is wrong", Check.book(x, "ash freed;ash kept;oak kept;", 1), 1);
        dueTold(x, 1, 1, 0, 0);
        Check.due("lived as far", x.now(4), 4);
        Check.due("and no farther", x.now(2), 0);
        Check.due("undone", x.undo(), 0);
        Check.due("no stump", x.now(4), 0);
    }

    private static void dueReason(String book, int line, int why) {
        PromiseTrees x = Check.on(Check.WOOD);
        Check.due(book, Check.book(x, book, 0), line);
        Check.due("why: " + book, x.told(0), why);
    }

    private static void reasons() {
        dueReason("oak freed;oak kept;", 1, 1);
        dueReason("oak kept;fir kept;", 1, 2);
        dueReason("elm kept;yew kept;", 1, 3);
        dueReason("oak kept;oak broken;", 1, 11);
        dueReason("oak broken;oak freed;", 1, 21);
        dueReason("oak broken;oak watered;", 1, 31);
        dueReason("oak watered;oak watered;", 1, 32);
        dueReason("day 60;day 60;day 60;day 60;day 60;day 60;day 41;", 6, 41);
        dueReason("day 60;day 60;day 60;day 60;day 60;day 60;day 40;day 1;", 7, 41);
        PromiseTrees x = Check.on(Check.WOOD);
        Check.book(x, "day 60;day 60;day 60;day 60;day 60;day 60;day 41;", 1);
        Check.due("none of the days goes by", x.now(0), 360);
        dueTold(x, 41, 6, 360, 31);
    }

    private static void told() {
        PromiseTrees x = Check.on(Check.WOOD);
        for (int w = -1; w < 5; w++) {
            Check.due("ahead of any", x.told(w), -1);
        }
        Check.book(x, "oak", 0);
        Check.due("one with a fault is none", x.told(0), -1);
        x.book(3);
        Check.due("nor one of -1000", x.told(0), -1);
        Check.book(x, "day 3;", 1);
        Check.book(x, "oak", 0);
        dueTold(x, 0, 1, 3, 0);
        Check.due("told -1", x.told(-1), -1);
        Check.due("told 4", x.told(4), -1);
        x.days(1);
        Check.book(x, "", 0);
        Check.due("all that fell by then", x.told(3), 9);
        Check.headland(x, "");
        dueTold(x, 0, 0, 4, 9);
    }

    private static void faults() {
        Check.bookFault("oak", 1, 3);
        Check.bookFault("oak kept", 1, 8);
        Check.bookFault("oak;", 1, 3);
        Check.bookFault("oak kept;;", 1, 9);
        Check.bookFault("oak stands;", 1, 4);
        Check.bookFault("oak fell;", 1, 4);
        Check.bookFault("kept oak;", 1, 0);
        Check.bookFault("land 2 2;", 1, 0);
        Check.bookFault("7;", 1, 0);
        Check.bookFault("day;", 1, 3);
        Check.bookFault("day oak;", 1, 4);
        Check.bookFault("day 0;", 2, 4);
        Check.bookFault("day 61;", 2, 4);
        Check.bookFault("day 061 kept", 2, 4);
        Check.bookFault("day 0060;", 1, 4);
        Check.bookFault("ann kept;", 3, 0);
        Check.bookFault("beech kept;", 3, 0);
        Check.bookFault("oak kept;beech kept;", 3, 9);
        String forty = "day 1;".repeat(40);
        PromiseTrees x = Check.on(Check.WOOD);
        Check.due("forty lines", Check.book(x, forty, 0), -1);
        Check.due("forty", x.told(1), 40);
        Check.bookFault(forty + "day 1;", 4, 240);
        Check.bookFault(forty + "day 61;", 4, 240);
        Check.bookFault(forty + "  oak", 4, 242);
        Check.bookFault(forty + "beech kept;", 3, 240);
        Check.bookFault(forty + "kept;", 1, 240);
        Check.bookFault(forty + ";", 1, 240);
    }

    private static void tooLong() {
        PromiseTrees x = Check.on(Check.WOOD);
        Check.due("400 bytes", Check.book(x, " ".repeat(394) + "day 7;", 0), -1);
        Check.due("seven days", x.told(2), 7);
        Check.bookFault(" ".repeat(395) + "day 7;", 1, 400);
        Check.bookFault("day 7;" + " ".repeat(395), 1, 400);
        Check.bookFault(" ".repeat(395) + "day 61;", 2, 399);
        Check.bookFault(" ".repeat(399) + "beech", 3, 399);
        Check.bookFault(" ".repeat(400) + "beech", 1, 400);
    }
}
