/** Promises 10 to 15: words kept, broken and freed, trees watered, days, acts undone. */
public final class ActTest {
    public static void main(String[] args) {
        keeping();
        breaking();
        lying();
        freeing();
        watering();
        growing();
        fallingDue();
        lastDays();
        undoing();
        undoingEight();
        Check.close();
    }

    private static void wrongOnes() {
        PromiseTrees x = Check.on(Check.WOOD);
        for (int p : new int[] {-1, 5, 10, Integer.MIN_VALUE, Integer.MAX_VALUE}) {
            Check.due("keep of none", x.keep(p), -1);
            Check.due("breaks of none", x.breaks(p), -1);
            Check.due("free of none", x.free(p), -1);
            Check.due("water of none", x.water(p), -1);
        }
        Check.due("nothing done", x.undo(), -1);
    }

    private static void keeping() {
        wrongOnes();
        PromiseTrees x = Check.on(Check.WOOD);
        Check.due("keep", x.keep(0), 0);
        Check.due("kept", x.now(2), 1);
        Check.due("keep again", x.keep(0), 1);
        Check.due("one that clashes is kept: the least reason", x.keep(3), 2);
        Check.due("keep of another man", x.keep(1), 0);
        Check.due("his second on a day", x.keep(4), 3);
        x.days(1);
        Check.due("on the next day", x.keep(4), 0);
        Check.due("a clash lasts", x.keep(3), 2);
        PromiseTrees y = Check.on(Check.WOOD);
        y.keep(0);
        y.breaks(4);
        Check.due("the kept one fell", y.promise(0, 6), 2);
        Check.due("it clashes no more, but he kept one on this day", y.keep(3), 3);
        y.days(1);
        Check.due("then it can be kept", y.keep(3), 0);
        Check.due("a broken one can't", y.keep(0), 1);
        PromiseTrees z = Check.on(Check.WOOD);
        z.keep(3);
        Check.due("a clash goes both ways", z.keep(0), 2);
    }

    private static void breaking() {
        PromiseTrees x = Check.on(Check.WOOD);
        Check.due("breaks", x.breaks(4), 0);
        Check.due("what fell", x.now(3), 19);
        Check.due("what stands", x.now(1), 12);
        Check.due("shut", x.now(5), 8);
        Check.due("breaks again", x.breaks(4), 1);
        x.keep(2);
        Check.due("breaks of a kept one", x.breaks(2), 1);
        x.free(3);
        Check.due("breaks of a stump", x.breaks(3), 1);
        int[][] trunk = {{1, 2}, {1, 1}, {1, 0}, {2, 0}, {3, 0}, {4, 0}, {3, 1}, {3, 2}};
        PromiseTrees y = Check.on("land 6 5;man a 0 0;man b 5 0;man c 3 4;promise p a b 1 0 20 3;"
            + "promise q b c 3 0 15 5;promise s b a 1 3 40 20;");
        y.breaks(2);
        for (int[] c : trunk) {
            Check.due("shut " + c[0] + " " + c[1], y.cell(c[0], c[1]) >= 100, true);
        }
        Check.due("shut in all", y.now(5), trunk.length);
    }

    /** Trunks lie along X where both are as far; one and a tenth of the height long; not over the land's edge. */
    private static void lying() {
        PromiseTrees x = Check.on("land 8 8;man a 0 0;man b 7 7;promise p b a 3 3 9 9;promise q a b 4 4 10 9;"
            + "promise r a b 5 1 29 9;promise s b a 2 6 60 9;promise t a b 7 6 60 9;");
        Check.due("as far by both: along X, one cell", x.shuts(0), 1);
        x.breaks(0);
        Check.due("toward the lesser X", x.cell(2, 3), 160);
        x.breaks(1);
        Check.due("toward the greater X", x.cell(5, 4), 160);
        Check.due("ten tall: two cells", x.cell(6, 4), 160);
        Check.due("and no more", x.cell(7, 4), 60);
        x.breaks(2);
        Check.due("farther by Y: along Y", x.cell(5, 2), 160);
        Check.due("29 tall: three cells", x.cell(5, 4), 160);
        Check.due("where two lie is shut once", x.now(5), 1 + 2 + 2);
        Check.due("as far as there is land, less one that is shut", x.shuts(3), 5);
        Check.due("next to its door", x.shuts(4), 1);
        x.breaks(4);
        Check.due("a door is shut", x.cell(7, 7), 141);
        PromiseTrees y = Check.on("land 8 2;man a 0 0;man b 7 1;promise p a b 1 0 40 9;promise q a b 3 0 39 9;"
            + "promise r b a 6 0 38 9;promise s a b 4 0 40 9;");
        y.keep(1);
        y.free(2);
        y.breaks(0);
        Check.due("a lower kept one falls, a stump and as tall a one do not", y.now(3), 3);
        Check.due("the stump", y.now(4), 4);
        Check.due("the other", y.now(1), 8);
        Check.due("the struck one lies too", y.cell(7, 0), 160);
    }

    private static void freeing() {
        PromiseTrees x = Check.on(Check.WOOD);
        Check.due("free", x.free(1), 0);
        Check.due("free again", x.free(1), 1);
        Check.due("keep a stump", x.keep(1), 1);
        Check.due("water a stump", x.water(1), 1);
        Check.due("stumps", x.now(4), 2);
        x.keep(0);
        Check.due("free a kept one", x.free(0), 1);
        x.breaks(2);
        Check.due("free a broken one", x.free(2), 1);
        x.days(6);
        Check.due("a stump does not fall when it is due", x.promise(1, 6), 3);
        Check.due("nor grow", x.promise(1, 4), 15);
    }

    private static void watering() {
        PromiseTrees x = Check.on("man a 0 0;man b 3 3;promise p a b 1 0 60 300;promise q b a 1 3 3 300;grows 0;");
        Check.due("water", x.water(1), 0);
        Check.due("five more", x.promise(1, 4), 8);
        Check.due("water again", x.water(1), 2);
        Check.due("no more", x.promise(1, 4), 8);
        for (int d = 0; d < 9; d++) {
            Check.due("water on day " + d, x.water(0), 0);
            x.days(1);
        }
        Check.due("99 at most", x.promise(0, 4), 99);
        Check.due("it can be watered all the same", x.water(0), 0);
        Check.due("but stays", x.promise(0, 4), 99);
        x.keep(0);
        Check.due("water a kept one", x.water(0), 1);
    }

    private static void growing() {
        PromiseTrees x = Check.on("man a 0 0;man b 3 3;man c 3 0;promise p a b 1 3 40 300;promise q b a 1 2 35 300;"
            + "promise r b a 1 0 25 300;promise s c a 2 0 26 300;promise t c a 2 3 40 300;grows 9;");
        x.days(1);
        Check.due("nothing shades it", x.promise(0, 4), 49);
        Check.due("5 taller next to it", x.promise(1, 4), 35);
        Check.due("15 taller three off", x.promise(2, 4), 25);
        Check.due("14 taller three off", x.promise(3, 4), 35);
        x.days(1);
        Check.due("shaded or not as a day begins", x.promise(3, 4), 44);
        x.keep(4);
        int was = x.promise(4, 4);
        x.days(60);
        Check.due("99 at most", x.promise(0, 4), 99);
        Check.due("what is kept does not grow", x.promise(4, 4), was);
        PromiseTrees y = Check.on("man a 0 0;man b 3 3;promise p a b 1 3 40 300;promise q b a 1 2 35 300;grows 5;");
        y.keep(0);
        y.days(1);
        Check.due("a kept tree shades", y.promise(1, 4), 35);
        y = Check.on("man a 0 0;man b 3 3;promise p a b 1 3 40 300;promise q b a 1 2 35 300;grows 5;");
        y.free(0);
        y.days(1);
        Check.due("a stump does not", y.promise(1, 4), 40);
        y = Check.on("man a 0 0;man b 3 3;promise p a b 1 2 40 300;promise q b a 1 3 5 300;grows 5;");
        y.days(1);
        Check.due("shade falls toward the lesser Y alone", y.promise(1, 4), 10);
    }

    private static void fallingDue() {
        PromiseTrees x = Check.on(Check.WOOD);
        Check.due("days", x.days(3), 3);
        Check.due("none is due yet", x.now(3), 0);
        x.days(1);
        Check.due("what was to be kept till day 3", x.now(3), 9);
        Check.due("day 4", x.now(0), 4);
        PromiseTrees y = Check.on("man a 0 0;man b 3 3;promise p a b 1 0 5 0;promise q b a 2 2 5 0;");
        y.keep(0);
        y.days(60);
        Check.due("a kept one does not fall by itself", y.promise(0, 6), 1);
        Check.due("an open one does", y.promise(1, 6), 2);
        PromiseTrees z = Check.on("land 8 2;man a 0 0;man b 7 0;promise p a b 1 0 9 0;promise q a b 2 0 9 0;grows 1;");
        z.days(1);
        Check.due("as tall ones do not strike one another", z.now(3), 3);
        Check.due("they grew ahead of their fall: two cells each", z.now(5), 3);
        PromiseTrees w = Check.on("land 8 2;man a 0 0;man b 7 0;promise p a b 1 0 40 0;promise q b a 2 0 9 0;grows 0;");
        w.days(1);
        Check.due("the first strikes the second, which falls once", w.man(1, 5), 1);
        Check.due("and lies", w.cell(1, 0), 160);
    }

    private static void lastDays() {
        PromiseTrees x = Check.on(Check.WOOD);
        for (int n : new int[] {0, -1, 61, Integer.MAX_VALUE, Integer.MIN_VALUE}) {
            Check.due("days " + n, x.days(n), -1);
        }
        for (int k = 0; k < 6; k++) {
            Check.due("sixty", x.days(60), 60);
        }
        Check.due("as many as are left", x.days(60), 40);
        Check.due("all are over", x.now(0), 400);
        Check.due("none", x.days(1), 0);
        Check.due("a day that did not go is not undone", x.undo(), 6);
        Check.due("the forty are", x.now(0), 360);
        x.days(39);
        Check.due("day 399", x.now(0), 399);
        Check.due("one is left", x.days(2), 1);
        Check.due("the last day is undone", x.undo(), 7);
        Check.due("day 399 again", x.now(0), 399);
    }

    private static void undoing() {
        PromiseTrees x = Check.on(Check.WOOD);
        x.water(1);
        x.keep(0);
        x.keep(3);
        x.free(3);
        x.breaks(4);
        x.days(2);
        x.drawn(3, 17);
        Check.book(x, "day 1;", 1);
        Check.book(x, "day 1;", 0);
        x.days(0);
        x.water(4);
        Check.due("the book", x.undo(), 6);
        Check.due("its day", x.now(0), 5);
        Check.due("the draws", x.undo(), 5);
        Check.due("their days", x.now(0), 2);
        Check.due("the days", x.undo(), 4);
        Check.due("none", x.now(0), 0);
        Check.due("the breaking", x.undo(), 3);
        Check.due("what fell stands", x.now(3), 0);
        Check.due("nothing is shut", x.now(5), 0);
        Check.due("the kept one is kept", x.now(2), 1);
        Check.due("the freeing", x.undo(), 2);
        Check.due("no stump", x.now(4), 0);
        Check.due("the keeping", x.undo(), 1);
        Check.due("none kept", x.man(0, 4), 0);
        Check.due("so it can be kept", x.keep(3), 0);
        x.undo();
        Check.due("the water", x.undo(), 0);
        Check.due("not watered", x.promise(1, 4), 15);
        Check.due("no more", x.undo(), -1);
        Check.due("so it can be watered", x.water(1), 0);
        Check.sentence(x, "kept");
        x.undo();
        Check.due("the sentence stays", x.said(-1), 0);
        x.keep(0);
        Check.book(x, "oak kept;", 1);
        Check.due("a book that was lived, though its first line was wrong", x.undo(), 1);
        Check.book(x, "oak", 1);
        Check.due("one with a fault was not lived", x.undo(), 0);
    }

    private static void undoingEight() {
        PromiseTrees x = Check.on("man a 0 0;man b 3 3;promise p a b 1 0 0 300;grows 0;");
        for (int k = 0; k < 10; k++) {
            x.days(1);
        }
        for (int left = 7; left >= 0; left--) {
            Check.due("undo", x.undo(), left);
        }
        Check.due("eight at most", x.undo(), -1);
        Check.due("two days stay", x.now(0), 2);
        x.days(5);
        Check.due("undo goes on", x.undo(), 0);
        Check.due("two days", x.now(0), 2);
    }
}
