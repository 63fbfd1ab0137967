/** Promises 1, 6 to 9 and 43: a new object, and what can be asked of promises, men, cells and all. */
public final class StateTest {
    public static void main(String[] args) {
        newObject();
        promises();
        men();
        cells();
        now();
        counts();
        newHeadland();
        Check.close();
    }

    private static void newObject() {
        PromiseTrees x = new PromiseTrees();
        int[] counts = {0, 0, 4, 4, 0, 1, 1, 0};
        for (int w = 0; w < 8; w++) {
            Check.due("count " + w + " of a new one", x.count(w), counts[w]);
            Check.due("now " + w + " of a new one", x.now(w), 0);
        }
        Check.due("no fault", x.fault(), 0);
        Check.due("no promise", Check.throwsForPromise(x, 0, 0), true);
        Check.due("no man", Check.throwsForMan(x, 0, 0), true);
        for (int y = 0; y < 4; y++) {
            for (int c = 0; c < 4; c++) {
                Check.due("nothing in a cell", x.cell(c, y), 60);
            }
        }
        Check.due("nothing to undo", x.undo(), -1);
        Check.due("no sentence", x.said(-1), -1);
        Check.due("all light", x.light(-1), 16);
    }

    private static void promises() {
        PromiseTrees x = Check.on(Check.WOOD);
        int[][] due = {
            {0, 1, 1, 0, 20, 3, 0, 1, 8}, {1, 2, 3, 0, 15, 5, 0, 0, 0}, {2, 0, 2, 2, 30, 9, 0, 0, 0},
            {0, 2, 1, 4, 8, 3, 0, 0, 1}, {1, 0, 1, 3, 40, 20, 0, 0, 0}};
        for (int p = 0; p < 5; p++) {
            for (int w = 0; w < 9; w++) {
                Check.due("promise " + p + " " + w, x.promise(p, w), due[p][w]);
            }
        }
        x.keep(0);
        x.breaks(1);
        x.free(2);
        Check.due("kept", x.promise(0, 6), 1);
        Check.due("fell", x.promise(1, 6), 2);
        Check.due("a stump", x.promise(2, 6), 3);
        Check.due("a kept tree is shaded too", x.promise(0, 7), 1);
        x.free(4);
        Check.due("a stump shades nothing", x.promise(0, 7), 0);
        int[][] wrong = {{-1, 0}, {5, 0}, {0, -1}, {0, 9}, {10, 0}, {Integer.MIN_VALUE, 0}, {0, Integer.MAX_VALUE}};
        for (int[] w : wrong) {
            Check.due("no such promise " + w[0] + " " + w[1], Check.throwsForPromise(x, w[0], w[1]), true);
        }
    }

    private static void men() {
        PromiseTrees x = Check.on(Check.WOOD);
        int[][] due = {{0, 0, 9, 20, 0, 0}, {5, 0, 18, 1, 0, 0}, {0, 4, 4, 10, 0, 0}};
        for (int m = 0; m < 3; m++) {
            for (int w = 0; w < 6; w++) {
                Check.due("man " + m + " " + w, x.man(m, w), due[m][w]);
            }
        }
        x.keep(0);
        Check.due("what is kept is open no more", x.man(0, 2), 8);
        Check.due("what is kept is open no more for him", x.man(1, 3), 0);
        Check.due("he kept one", x.man(0, 4), 1);
        x.breaks(4);
        Check.due("kept one so far, though it fell", x.man(0, 4), 1);
        Check.due("and it was broken", x.man(0, 5), 1);
        Check.due("two of bob's were broken", x.man(1, 5), 2);
        x.free(2);
        Check.due("a freed one is not broken", x.man(2, 5), 0);
        Check.due("nor open", x.man(2, 2), 0);
        int[][] wrong = {{-1, 0}, {3, 0}, {0, -1}, {0, 6}, {6, 0}, {Integer.MAX_VALUE, 0}};
        for (int[] w : wrong) {
            Check.due("no such man " + w[0] + " " + w[1], Check.throwsForMan(x, w[0], w[1]), true);
        }
    }

    private static void cells() {
        PromiseTrees x = Check.on(Check.WOOD);
        Check.due("a door", x.cell(5, 0), 41);
        Check.due("a tree", x.cell(1, 3), 4);
        Check.due("nothing", x.cell(4, 4), 60);
        int[][] wrong = {{-1, 0}, {0, -1}, {6, 0}, {0, 5}, {Integer.MIN_VALUE, Integer.MAX_VALUE}};
        for (int[] w : wrong) {
            Check.due("no such cell", x.cell(w[0], w[1]), -1);
        }
        x.breaks(0);
        Check.due("where a tree fell is nothing", x.cell(1, 0), 60);
        Check.due("where its trunk lies", x.cell(2, 0), 160);
        PromiseTrees y = Check.on("land 4 2;man a 0 0;man b 3 0;promise p b a 2 0 30 9;promise q a b 1 0 30 9;");
        y.free(1);
        Check.due("a stump", y.cell(1, 0), 21);
        y.breaks(0);
        Check.due("a stump under a trunk", y.cell(1, 0), 121);
        Check.due("a door under a trunk", y.cell(0, 0), 140);
        PromiseTrees z = Check.on("land 4 2;man a 0 0;man b 3 0;promise p b a 2 0 30 9;promise q a b 1 0 30 9;");
        z.breaks(0);
        Check.due("as tall a tree stands under a trunk", z.cell(1, 0), 101);
    }

    private static void now() {
        PromiseTrees x = Check.on(Check.WOOD);
        int[] due = {0, 31, 0, 0, 0, 0, 113, 0};
        for (int w = 0; w < 8; w++) {
            Check.due("now " + w, x.now(w), due[w]);
        }
        x.keep(2);
        x.free(3);
        x.breaks(4);
        int[] then = {0, 0, 4, 19, 8, 8, 30, 75};
        for (int w = 0; w < 8; w++) {
            Check.due("now " + w + " behind acts", x.now(w), then[w]);
        }
        x.days(3);
        Check.due("the day", x.now(0), 3);
        Check.due("now -1", x.now(-1), -1);
        Check.due("now 8", x.now(8), -1);
    }

    private static void counts() {
        PromiseTrees x = Check.on(Check.WOOD);
        int[] due = {3, 5, 6, 5, 1, 2, 0, 0};
        for (int w = 0; w < 8; w++) {
            Check.due("count " + w, x.count(w), due[w]);
        }
        Check.put(x, "abc");
        Check.due("bytes of the tape", x.count(7), 3);
        Check.due("count -1", x.count(-1), -1);
        Check.due("count 8", x.count(8), -1);
    }

    private static void newHeadland() {
        PromiseTrees x = Check.on(Check.WOOD);
        Check.sentence(x, "kept");
        x.water(1);
        x.keep(0);
        x.breaks(2);
        x.days(2);
        Check.due("told anew", Check.headland(x, Check.WOOD), 12);
        Check.due("day 0", x.now(0), 0);
        Check.due("all stand", x.now(1), 31);
        Check.due("nothing is shut", x.now(5), 0);
        Check.due("as tall as told", x.promise(1, 4), 15);
        Check.due("none kept", x.man(0, 4), 0);
        Check.due("no sentence", x.said(-1), -1);
        Check.due("nothing to undo", x.undo(), -1);
        Check.due("nothing watered", x.water(1), 0);
        Check.due("he kept none on this day", x.keep(0), 0);
        Check.due("an empty one", Check.headland(x, ""), 0);
        Check.due("no men", x.count(0), 0);
        Check.due("4 by 4", x.count(2) * x.count(3), 16);
        Check.due("grows 1", x.count(5), 1);
        Check.due("storm 1", x.count(6), 1);
    }
}
