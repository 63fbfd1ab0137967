/** Promises 41 and 42: images kept and restored. */
public final class ImageTest {
    public static void main(String[] args) {
        wrongPlaces();
        whole();
        whatStays();
        twoPlaces();
        Check.close();
    }

    private static void wrongPlaces() {
        PromiseTrees x = Check.on(Check.WOOD);
        for (int k : new int[] {-1, 2, Integer.MAX_VALUE, Integer.MIN_VALUE}) {
            Check.due("image " + k, x.image(k), false);
            Check.due("restore " + k, x.restore(k), false);
        }
        x.keep(0);
        Check.due("nothing is kept there", x.restore(0), false);
        Check.due("nothing is kept there", x.restore(1), false);
        Check.due("so it can be undone", x.undo(), 0);
    }

    private static void whole() {
        PromiseTrees x = Check.on(Check.WOOD);
        Check.sentence(x, "by bob");
        x.water(2);
        x.days(1);
        x.water(1);
        x.keep(0);
        x.breaks(4);
        x.free(3);
        Check.due("image", x.image(1), true);
        int[] now = new int[8];
        for (int w = 0; w < 8; w++) {
            now[w] = x.now(w);
        }
        Check.due("another headland", Check.headland(x, "land 3 3;man z 0 0;man y 2 2;promise w z y 1 1 5 5;grows 9;"), 5);
        x.days(4);
        Check.sentence(x, "kept");
        Check.due("restore", x.restore(1), true);
        for (int w = 0; w < 8; w++) {
            Check.due("now " + w, x.now(w), now[w]);
        }
        int[] counts = {3, 5, 6, 5, 1, 2, 0};
        for (int w = 0; w < 7; w++) {
            Check.due("count " + w, x.count(w), counts[w]);
        }
        Check.due("the sentence", x.said(-1) * 100 + x.said(0) * 10 + x.said(1), 214);
        Check.due("names", Check.book(x, "ash watered;day 1;ash watered;ash kept;", 0), -1);
        Check.due("he kept one on this day", x.keep(3), 1);
        Check.due("kept so far", x.man(0, 4), 1);
        Check.due("a trunk", x.cell(1, 2), 160);
        Check.due("a clash", x.promise(0, 8), 8);
        Check.due("a height", x.promise(2, 4), 37);
        Check.due("restored again and again", x.restore(1), true);
        Check.due("the day", x.now(0), 1);
    }

    private static void whatStays() {
        PromiseTrees x = Check.on(Check.WOOD);
        x.image(0);
        x.keep(0);
        x.most();
        x.ring();
        x.rounds();
        Check.sworn(x, 2, 2, 1);
        Check.book(x, "day 2;", 0);
        Check.sentence(x, "zz");
        Check.put(x, "abc");
        int chosen = x.chosen();
        Check.due("restore", x.restore(0), true);
        Check.due("the tape stays", x.count(7), 3);
        Check.due("the fault", x.fault(), 1);
        Check.due("chosen", x.chosen(), chosen);
        Check.due("the ring", x.ringAt(0), 2);
        Check.due("the price", x.price(), 0);
        Check.due("surely", x.surely(), 31);
        Check.due("told", x.told(2), 2);
        Check.due("nothing can be undone", x.undo(), -1);
        Check.due("no sentence, as then", x.said(-1), -1);
        Check.due("none kept, as then", x.now(2), 0);
        x.keep(1);
        Check.due("acts behind it can", x.undo(), 0);
        x.keep(1);
        Check.due("an image leaves what can be undone", x.image(1), true);
        Check.due("undone", x.undo(), 0);
    }

    private static void twoPlaces() {
        PromiseTrees x = new PromiseTrees();
        x.image(0);
        Check.headland(x, Check.WOOD);
        Check.sentence(x, "kept");
        x.keep(2);
        x.image(1);
        Check.due("the empty one", x.restore(0), true);
        Check.due("no men", x.count(0), 0);
        Check.due("no sentence", x.said(-1), -1);
        Check.due("the other", x.restore(1), true);
        Check.due("kept", x.said(0), 2);
        x.days(1);
        x.image(1);
        x.days(1);
        x.restore(1);
        Check.due("the latest in a place", x.now(0), 1);
    }
}
