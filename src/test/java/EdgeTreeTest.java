/** The bounds that "Terms" tells of trees, days, prices and draws, each on both sides. */
public final class EdgeTreeTest {
    private static final String FIELD = "land 8 8;man a 0 0;man b 7 0;";

    public static void main(String[] args) {
        shadeByDistance();
        shadeOneWay();
        shadeOfCells();
        shadeByState();
        trunksByHeight();
        trunksByEdge();
        trunksByDirection();
        struckByHeight();
        struckByDistance();
        struckByState();
        struckInTurn();
        keepingTheLeastReason();
        keepingOnADay();
        wateringTo99();
        growingTo99();
        growingByTheBeginning();
        dueOnItsDay();
        dueTrees();
        lastDay();
        lightOfCells();
        waysOverCells();
        mostByDay();
        ringsByLength();
        sharesByRest();
        pricesByRound();
        stormsByDraw();
        actsByDraw();
        drawsWrap();
        Check.close();
    }

    private static String tree(String name, String men, int x, int y, int tall, int till) {
        return "promise " + name + " " + men + " " + x + " " + y + " " + tall + " " + till + ";";
    }

    private static boolean isLight(PromiseTrees x, int cellX, int cellY) {
        for (int k = 0; k < x.light(-1); k++) {
            if (x.light(k) == cellX + 10 * cellY) {
                return true;
            }
        }
        return false;
    }

    // ---- shade: 5 by d TALLER at least ----

    private static void shadeByDistance() {
        for (int d = 1; d <= 7; d++) {
            for (int low : new int[] {0, 1, 20}) {
                for (int more = 5 * d - 1; more <= 5 * d + 1; more++) {
                    PromiseTrees x = Check.on(FIELD + tree("p", "a b", 3, 7, low + more, 9)
                        + tree("q", "a b", 3, 7 - d, low, 9));
                    String what = more + " taller, " + d + " off, of " + low;
                    int shaded = more >= 5 * d ? 1 : 0;
                    Check.due("shaded: " + what, x.promise(1, 7), shaded);
                    Check.due("shades: " + what, x.shades(0), shaded << 1);
                    Check.due("not the other way: " + what, x.promise(0, 7) + x.shades(1), 0);
                    x.days(1);
                    Check.due("grows: " + what, x.promise(1, 4), shaded == 1 ? low : low + 1);
                }
            }
        }
    }

    /** In its column, toward the lesser Y. */
    private static void shadeOneWay() {
        PromiseTrees x = Check.on(FIELD + tree("p", "a b", 3, 3, 60, 9) + tree("q", "a b", 3, 4, 0, 9)
            + tree("r", "a b", 2, 2, 0, 9) + tree("s", "a b", 4, 2, 0, 9) + tree("t", "a b", 2, 3, 0, 9)
            + tree("u", "a b", 4, 3, 0, 9) + tree("v", "a b", 3, 2, 55, 9) + tree("w", "a b", 3, 1, 50, 9)
            + tree("y", "a b", 3, 0, 46, 9));
        Check.due("the ones above it, 5 and 10 lower, not 14 lower", x.shades(0), 64 + 128);
        for (int p = 0; p < 9; p++) {
            boolean shaded = p == 6 || p == 7;
            Check.due("shaded " + p, x.promise(p, 7), shaded ? 1 : 0);
        }
    }

    private static void shadeOfCells() {
        for (int d = 1; d <= 7; d++) {
            for (int tall = 5 * d - 1; tall <= 5 * d + 1; tall++) {
                PromiseTrees x = Check.on(FIELD + tree("p", "a b", 3, 7, tall, 9));
                Check.due("a cell " + d + " off, " + tall + " tall", isLight(x, 3, 7 - d), tall < 5 * d);
                int dark = Math.min(7, tall / 5);
                Check.due("light in all", x.light(-1), 64 - 2 - 1 - dark);
                Check.due("the next column", isLight(x, 2, 7 - d) && isLight(x, 4, 7 - d), true);
            }
        }
        PromiseTrees y = Check.on(FIELD + tree("p", "a b", 3, 3, 60, 9));
        Check.due("no shade toward the greater Y", isLight(y, 3, 4) && isLight(y, 3, 7), true);
        Check.due("all cells toward the lesser", isLight(y, 3, 0) || isLight(y, 3, 1) || isLight(y, 3, 2), false);
    }

    private static void shadeByState() {
        String two = FIELD + tree("p", "a b", 3, 7, 60, 9) + tree("q", "b a", 3, 1, 0, 9);
        PromiseTrees x = Check.on(two);
        x.keep(0);
        Check.due("a kept one shades", x.shades(0), 2);
        Check.due("cells too", isLight(x, 3, 5), false);
        x.keep(1);
        Check.due("a kept one is shaded", x.shades(0), 2);
        Check.due("a kept one is shaded", x.promise(1, 7), 1);
        x = Check.on(two);
        x.free(0);
        Check.due("a stump shades none", x.shades(0), 0);
        Check.due("nor cells", isLight(x, 3, 5), true);
        Check.due("so it is shaded by none", x.promise(1, 7), 0);
        x = Check.on(two);
        x.breaks(0);
        Check.due("what fell shades none", x.shades(0), 0);
        Check.due("so it is shaded by none", x.promise(1, 7), 0);
        x = Check.on(two);
        x.free(1);
        Check.due("a stump is not shaded", x.shades(0) + x.promise(1, 7), 0);
        x = Check.on(two);
        x.breaks(1);
        Check.due("nor what fell", x.shades(0) + x.promise(1, 7), 0);
    }

    // ---- what falls ----

    /** Over 1 and a tenth (cut) of TALL cells. */
    private static void trunksByHeight() {
        for (int tall = 0; tall <= 60; tall++) {
            PromiseTrees x = Check.on("land 8 2;man a 0 1;man b 7 0;" + tree("p", "a b", 0, 0, tall, 9));
            int cells = 1 + tall / 10;
            Check.due("cells under " + tall, x.shuts(0), cells);
            x.breaks(0);
            Check.due("shut by " + tall, x.now(5), cells);
            Check.due("its own cell is not", x.cell(0, 0), 60);
            Check.due("the last one", x.cell(cells, 0), cells == 7 ? 141 : 160);
            Check.due("the next one", cells == 7 ? 60 : x.cell(cells + 1, 0), cells == 6 ? 41 : 60);
        }
    }

    /** As far as there is land: toward all four sides. */
    private static void trunksByEdge() {
        int[][] doors = {{0, 3}, {7, 3}, {3, 0}, {3, 7}};
        int[][] beside = {{1, 3}, {6, 3}, {3, 1}, {3, 6}};
        for (int k = 0; k < 4; k++) {
            PromiseTrees x = Check.on("land 8 8;man a 5 5;man b " + doors[k][0] + " " + doors[k][1] + ";"
                + tree("p", "a b", beside[k][0], beside[k][1], 60, 9));
            Check.due("one cell of land", x.shuts(0), 1);
            x.breaks(0);
            Check.due("the door", x.cell(doors[k][0], doors[k][1]), 141);
        }
        for (int wide = 2; wide <= 8; wide++) {
            PromiseTrees x = Check.on("land " + wide + " 2;man a 0 1;man b " + (wide - 1) + " 0;"
                + tree("p", "a b", 0, 0, 60, 9));
            Check.due("as wide as the land", x.shuts(0), Math.min(7, wide - 1));
            PromiseTrees y = Check.on("land 2 " + wide + ";man a 1 0;man b 0 " + (wide - 1) + ";"
                + tree("p", "a b", 0, 0, 60, 9));
            Check.due("as high as the land", y.shuts(0), Math.min(7, wide - 1));
        }
    }

    /** Along X, if the door is as far by X as by Y or farther, else along Y. */
    private static void trunksByDirection() {
        for (int dx = -3; dx <= 3; dx++) {
            for (int dy = -3; dy <= 3; dy++) {
                if (dx == 0 && dy == 0) {
                    continue;
                }
                PromiseTrees x = Check.on("land 8 8;man a 7 7;man b " + (3 + dx) + " " + (3 + dy) + ";"
                    + tree("p", "a b", 3, 3, 0, 9));
                x.breaks(0);
                boolean alongX = Math.abs(dx) >= Math.abs(dy);
                int cx = alongX ? 3 + Integer.signum(dx) : 3;
                int cy = alongX ? 3 : 3 + Integer.signum(dy);
                Check.due("toward " + dx + " " + dy, x.cell(cx, cy) >= 100, true);
                Check.due("and nowhere else", x.now(5), 1);
            }
        }
        PromiseTrees y = Check.on(FIELD + tree("p", "b a", 3, 0, 9, 9));
        y.breaks(0);
        Check.due("toward him to whom it was promised", y.cell(2, 0), 160);
    }

    /** Upright trees that are less TALL. */
    private static void struckByHeight() {
        for (int low = 28; low <= 32; low++) {
            PromiseTrees x = Check.on(FIELD + tree("p", "a b", 1, 0, 30, 9) + tree("q", "b a", 3, 0, low, 9));
            Check.due("of 30 on " + low, x.falls(0), low < 30 ? 3 : 1);
            x.breaks(0);
            Check.due("fell", x.now(3), low < 30 ? 3 : 1);
            Check.due("the cell", x.cell(3, 0), low < 30 ? 160 : 101);
            Check.due("whose word is broken", x.man(1, 5), low < 30 ? 1 : 0);
        }
        PromiseTrees y = Check.on(FIELD + tree("p", "a b", 1, 0, 0, 9) + tree("q", "b a", 2, 0, 0, 9));
        Check.due("of 0 on 0", y.falls(0), 1);
    }

    private static void struckByDistance() {
        for (int at = 2; at <= 6; at++) {
            PromiseTrees x = Check.on(FIELD + tree("p", "a b", 1, 0, 29, 9) + tree("q", "a b", at, 0, 5, 9));
            Check.due("three cells: a tree " + (at - 1) + " off", x.falls(0), at <= 4 ? 3 : 1);
        }
        PromiseTrees y = Check.on(FIELD + tree("p", "a b", 1, 0, 60, 9) + tree("q", "a b", 2, 1, 5, 9)
            + tree("r", "a b", 1, 1, 5, 9));
        Check.due("the next row is not struck", y.falls(0), 1);
        PromiseTrees z = Check.on(FIELD + tree("p", "a b", 3, 0, 60, 9) + tree("q", "a b", 2, 0, 5, 9));
        Check.due("nor what is behind it", z.falls(0), 1);
    }

    private static void struckByState() {
        String row = FIELD + tree("p", "a b", 1, 0, 60, 9) + tree("q", "b a", 2, 1, 9, 9) + tree("r", "b a", 3, 0, 9, 9);
        PromiseTrees x = Check.on(row);
        x.keep(2);
        Check.due("a kept one", x.falls(0), 5);
        x = Check.on(row);
        x.free(2);
        Check.due("a stump", x.falls(0), 1);
        x.breaks(0);
        Check.due("stays a stump", x.cell(3, 0), 122);
        x = Check.on(row);
        x.breaks(2);
        Check.due("what fell", x.falls(0), 1);
        Check.due("over a trunk that lies there: no cell twice", x.shuts(0), 5);
    }

    /** What these lie on, and so on; a taller tree in between stays, and what is beyond it falls. */
    private static void struckInTurn() {
        PromiseTrees x = Check.on("land 8 8;man a 0 0;man b 7 0;man c 3 7;man d 0 5;" + tree("p", "a b", 1, 0, 40, 9)
            + tree("q", "a c", 3, 0, 39, 9) + tree("r", "a d", 3, 3, 38, 9) + tree("s", "a b", 1, 3, 37, 9)
            + tree("t", "a b", 5, 0, 60, 9) + tree("u", "a b", 6, 0, 10, 9));
        Check.due("p, q, r, s, u; not t", x.falls(0), 47);
        Check.due("q's", x.falls(1), 14);
        x.breaks(0);
        Check.due("s lies over r's own cell", x.cell(3, 3), 160);
        Check.due("t stands under p", x.cell(5, 0), 104);
        Check.due("u fell", x.cell(6, 0), 160);
        PromiseTrees y = Check.on(FIELD + tree("p", "a b", 1, 0, 50, 9) + tree("q", "a b", 3, 0, 60, 9)
            + tree("r", "a b", 6, 0, 49, 9));
        Check.due("over a taller one on a lower one", y.falls(0), 5);
    }

    // ---- acts ----

    private static void keepingTheLeastReason() {
        String three = FIELD + tree("p", "a b", 1, 1, 0, 99) + tree("q", "a b", 3, 3, 0, 99)
            + tree("r", "a b", 5, 5, 0, 99) + "clash p q;";
        PromiseTrees x = Check.on(three);
        x.keep(0);
        Check.due("2 ahead of 3", x.keep(1), 2);
        Check.due("3 alone", x.keep(2), 3);
        x.free(1);
        Check.due("1 ahead of 2", x.keep(1), 1);
        Check.due("1 ahead of 3", x.keep(0), 1);
        PromiseTrees y = Check.on(three);
        y.free(0);
        Check.due("a clash with a stump is none", y.keep(1), 0);
        PromiseTrees z = Check.on(three);
        z.breaks(0);
        Check.due("a clash with what fell is none", z.keep(1), 0);
        PromiseTrees w = Check.on(three);
        Check.due("a clash with what stands is none", w.keep(1), 0);
    }

    private static void keepingOnADay() {
        PromiseTrees x = Check.on(FIELD + tree("p", "a b", 1, 1, 0, 99) + tree("q", "a b", 3, 3, 0, 99)
            + tree("r", "b a", 5, 5, 0, 99) + tree("s", "b a", 5, 6, 0, 99));
        Check.due("one a day", x.keep(0), 0);
        Check.due("not two", x.keep(1), 3);
        Check.due("he to whom it was given may", x.keep(2), 0);
        x.days(1);
        Check.due("the next day", x.keep(1), 0);
        Check.due("the other too", x.keep(3), 0);
        Check.due("two each", x.man(0, 4) * 10 + x.man(1, 4), 22);
    }

    private static void wateringTo99() {
        PromiseTrees x = Check.on(FIELD + tree("p", "a b", 1, 1, 59, 99) + tree("q", "a b", 3, 3, 60, 99) + "grows 0;");
        for (int k = 0; k < 7; k++) {
            x.water(0);
            x.water(1);
            x.days(1);
        }
        Check.due("94", x.promise(0, 4), 94);
        Check.due("95", x.promise(1, 4), 95);
        x.water(0);
        x.water(1);
        Check.due("94 and 5", x.promise(0, 4), 99);
        Check.due("95 and 4", x.promise(1, 4), 99);
        Check.due("once a day at 99 too", x.water(0), 2);
        x.days(1);
        Check.due("99 can be watered", x.water(0), 0);
        Check.due("to no avail", x.promise(0, 4), 99);
    }

    private static void growingTo99() {
        for (int grows = 0; grows <= 9; grows++) {
            PromiseTrees x = Check.on(FIELD + tree("p", "a b", 1, 1, 60, 399) + "grows " + grows + ";");
            for (int k = 1; k <= 45; k++) {
                x.days(1);
                Check.due("by " + grows + " on day " + k, x.promise(0, 4), Math.min(99, 60 + grows * k));
            }
        }
    }

    private static void growingByTheBeginning() {
        PromiseTrees x = Check.on(FIELD + tree("p", "a b", 1, 3, 24, 99) + tree("q", "a b", 1, 2, 20, 99) + "grows 5;");
        x.days(1);
        Check.due("the first grew", x.promise(0, 4), 29);
        Check.due("the second grew too", x.promise(1, 4), 25);
        PromiseTrees y = Check.on(FIELD + tree("q", "a b", 1, 2, 20, 99) + tree("p", "a b", 1, 3, 25, 0) + "grows 5;");
        y.days(1);
        Check.due("shaded, though what shaded it fell on that day", y.promise(0, 4), 20);
        y.days(1);
        Check.due("then it grows", y.promise(0, 4), 25);
        PromiseTrees z = Check.on(FIELD + tree("p", "a b", 1, 3, 25, 99) + tree("q", "a b", 1, 2, 20, 99) + "grows 5;");
        z.water(1);
        z.days(1);
        Check.due("watered out of the shade", z.promise(1, 4), 30);
        z.undo();
        z.undo();
        z.days(1);
        Check.due("in the shade", z.promise(1, 4), 20);
    }

    // ---- days ----

    private static void dueOnItsDay() {
        for (int till : new int[] {0, 1, 5}) {
            PromiseTrees x = Check.on(FIELD + tree("p", "a b", 1, 1, 9, till));
            if (till > 0) {
                x.days(till);
            }
            Check.due("on its day it stands", x.promise(0, 6), 0);
            PromiseTrees y = Check.on(FIELD + tree("p", "a b", 1, 1, 9, till));
            Check.due("as many days and one", y.days(till + 1), till + 1);
            Check.due("behind it it fell", y.promise(0, 6), 2);
            Check.due("it is the next day", y.now(0), till + 1);
            x.keep(0);
            x.days(1);
            Check.due("kept on its last day", x.promise(0, 6), 1);
        }
    }

    private static void dueTrees() {
        PromiseTrees x = Check.on(FIELD + tree("p", "a b", 1, 1, 9, 0) + "grows 1;");
        x.days(1);
        Check.due("it grew to ten, then fell: two cells", x.now(5) * 100 + x.now(7), 210);
        PromiseTrees y = Check.on(FIELD + tree("p", "a b", 1, 0, 50, 0) + tree("q", "b a", 3, 0, 40, 0)
            + tree("r", "a b", 5, 5, 0, 0) + "grows 0;");
        y.free(2);
        y.days(1);
        Check.due("both fell, the stump did not", y.now(3) * 10 + y.now(4), 34);
        Check.due("the struck one fell once", y.man(1, 5), 1);
        Check.due("its trunk lies once: 1 2, 4 5 6 and its own by p's", y.now(5), 8);
    }

    /** DAYS 0 to 399; 400: all are over. */
    private static void lastDay() {
        PromiseTrees x = Check.on(FIELD + tree("p", "a b", 1, 1, 0, 399) + tree("q", "a b", 3, 3, 0, 398) + "grows 0;");
        for (int k = 0; k < 6; k++) {
            x.days(60);
        }
        x.days(38);
        Check.due("day 398", x.now(0) * 10 + x.now(1), 3983);
        x.days(1);
        Check.due("day 399", x.now(0) * 10 + x.now(1), 3991);
        Check.due("watered on it", x.water(0), 0);
        Check.due("most", x.most(), 1);
        Check.due("first", x.first(), 399);
        Check.due("broken", x.broken(60), 1);
        Check.due("the last", x.days(60), 1);
        Check.due("day 400", x.now(0) * 10 + x.now(1), 4000);
        Check.due("none more", x.days(1), 0);
        Check.due("none drawn", x.drawn(1, 1), 0);
        Check.due("day 400 still", x.now(0), 400);
        Check.due("most", x.most(), 0);
        Check.due("first", x.first(), -1);
        Check.due("broken", x.broken(60), 0);
        Check.due("when", x.when(0, 0), -1);
        Check.due("odds", x.odds(0, 30, 5), 0);
        Check.due("a book of a day", Check.book(x, "day 1;", 1), 0);
        Check.due("fewer days are left", x.told(0), 41);
    }

    // ---- light, ways ----

    private static void lightOfCells() {
        PromiseTrees x = Check.on("land 2 2;man a 0 0;man b 1 0;" + tree("p", "a b", 0, 1, 0, 9)
            + tree("q", "b a", 1, 1, 0, 9));
        Check.due("full", x.light(-1), 0);
        Check.due("full", x.light(0), -1);
        x.free(0);
        Check.due("a stump is something", x.light(-1), 0);
        x.breaks(1);
        Check.due("where it fell is free", x.light(-1) * 100 + x.light(0), 111);
        PromiseTrees y = Check.on("land 4 2;man a 0 0;man b 3 0;" + tree("p", "a b", 1, 0, 9, 9)
            + tree("q", "b a", 2, 0, 9, 9));
        y.breaks(0);
        y.breaks(1);
        Check.due("where both fell the other's trunk lies", isLight(y, 1, 0) || isLight(y, 2, 0), false);
        Check.due("the other row", y.light(-1), 4);
    }

    private static void waysOverCells() {
        String lane = "land 8 2;man a 0 0;man b 7 0;man c 3 0;man d 3 1;";
        PromiseTrees x = Check.on(lane);
        Check.due("over a third door", x.way(0, 1), 7);
        Check.due("next to one another", x.way(2, 3), 1);
        Check.due("both ways", x.way(1, 0), 7);
        PromiseTrees y = Check.on(lane + tree("p", "a c", 2, 0, 0, 9) + tree("q", "a d", 5, 1, 10, 9));
        Check.due("round trees", y.way(0, 1), 9);
        y.breaks(0);
        Check.due("p lies on c's door: by d's", y.way(0, 1), 9);
        Check.due("to the door that is shut", y.way(0, 2), 3);
        Check.due("from it", y.way(2, 1), 4);
        y.breaks(1);
        Check.due("both doors are shut", y.way(0, 1), -1);
        Check.due("but may be gone to", y.way(0, 2) * 10 + y.way(0, 3), 34);
        Check.due("from the one to the other", y.way(2, 3), 1);
        Check.due("to himself on a shut door", y.way(2, 2), 0);
        PromiseTrees z = Check.on("land 8 8;man a 0 0;man b 7 7;");
        Check.due("the farthest of an open land", z.way(0, 1), 14);
        PromiseTrees w = Check.on("land 2 2;man a 0 0;man b 1 1;" + tree("p", "a b", 1, 0, 0, 9) + tree("q", "a b", 0, 1, 0, 9));
        Check.due("not askew", w.way(0, 1), -1);
    }

    // ---- what is reckoned ----

    private static void mostByDay() {
        for (int till = 0; till <= 3; till++) {
            PromiseTrees x = Check.on(FIELD + tree("p", "a b", 1, 1, 0, till) + tree("q", "a b", 2, 2, 0, till)
                + tree("r", "a b", 3, 3, 0, till) + tree("s", "a b", 4, 4, 0, till) + tree("t", "b a", 5, 5, 0, till));
            Check.due("a day for each till " + till, x.most(), till + 2);
            Check.due("the least as bits", x.chosen(), (1 << (till + 1)) - 1 + 16);
            x.keep(3);
            Check.due("none more on this day", x.most(), Math.min(3, till) + 1);
        }
        PromiseTrees y = Check.on(FIELD + tree("p", "a b", 1, 1, 0, 9) + tree("q", "b a", 2, 2, 0, 9)
            + tree("r", "a b", 3, 3, 0, 9) + "clash p q;clash q r;");
        Check.due("two that do not clash", y.most() * 10 + y.chosen(), 25);
        y.keep(1);
        Check.due("both clash with a kept one", y.most() * 10 + y.chosen(), 0);
        y.undo();
        y.free(1);
        Check.due("a stump clashes with none", y.most(), 2);
    }

    private static void ringsByLength() {
        String six = "land 8 8;man a 0 0;man b 1 0;man c 2 0;man d 3 0;man e 4 0;man f 5 0;";
        String names = "abcdef";
        for (int length = 2; length <= 6; length++) {
            StringBuilder text = new StringBuilder(six);
            for (int k = 0; k < length; k++) {
                text.append(tree("" + (char) ('k' + k), names.charAt(k) + " " + names.charAt((k + 1) % length), k, 2, 0, 9));
            }
            PromiseTrees x = Check.on(text.toString());
            Check.due("a ring", x.ring(), length);
            Check.due("its last word", x.ringAt(length - 1), length - 1);
            Check.due("no more", x.ringAt(length), -1);
            x.keep(length - 1);
            Check.due("a kept word is in none", x.ring(), -1);
            Check.due("the latest that was not NONE", x.ringAt(length - 1), length - 1);
        }
        PromiseTrees y = Check.on(six + tree("k", "b c", 0, 2, 0, 9) + tree("l", "c b", 1, 2, 0, 9)
            + tree("m", "a b", 2, 2, 0, 9) + tree("n", "b a", 3, 2, 0, 9) + tree("o", "b c", 4, 2, 0, 9));
        Check.due("two", y.ring(), 2);
        Check.due("word by word the least", y.ringAt(0) * 10 + y.ringAt(1), 1);
        PromiseTrees z = Check.on(six + tree("k", "a b", 0, 2, 0, 9) + tree("l", "b c", 1, 2, 0, 9)
            + tree("m", "c d", 2, 2, 0, 9));
        Check.due("a row is no ring", z.ring(), -1);
        Check.due("none such", z.ringAt(0), -1);
    }

    private static void sharesByRest() {
        PromiseTrees x = Check.on(FIELD + tree("p", "a b", 1, 1, 39, 99) + tree("q", "a b", 2, 2, 59, 99)
            + tree("r", "a b", 3, 3, 59, 99) + "grows 0;");
        // thirst 60, 40, 40 of 140
        int[][] due = {{0, 0, 0}, {1, 0, 0}, {1, 1, 0}, {1, 1, 1}, {2, 1, 1}, {2, 2, 1}, {2, 2, 2}, {3, 2, 2}};
        for (int w = 0; w < due.length; w++) {
            for (int p = 0; p < 3; p++) {
                Check.due(w + " to " + p, x.share(w, p), due[w][p]);
            }
        }
        PromiseTrees y = Check.on(FIELD + tree("p", "a b", 1, 1, 60, 99) + tree("q", "a b", 2, 2, 58, 99) + "grows 1;");
        y.days(39);
        Check.due("99 and 97 tall", y.promise(0, 4) * 100 + y.promise(1, 4), 9997);
        Check.due("nothing to one without thirst", y.share(999, 0), 0);
        Check.due("all to the one that has some", y.share(999, 1), 999);
        Check.due("1 to it", y.share(1, 1), 1);
        y.days(2);
        Check.due("none has any", y.share(999, 0) + y.share(999, 1), 0);
    }

    /** 60 ROUNDS at most, that by which REST is seen counted. */
    private static void pricesByRound() {
        int[][] due = {{0, 11, 0}, {2, 10, 1}, {18, 2, 9}, {20, 1, 10}, {22, 2, 11}, {136, 59, 68}, {138, 60, 69},
            {140, 60, 70}, {142, 60, 70}, {21, 60, 10}, {19, 60, 10}, {1, 60, 0}};
        for (int[] row : due) {
            StringBuilder text = new StringBuilder(FIELD + "grows 0;");
            int left = row[0];
            for (int p = 0; p < 3; p++) {
                int tall = Math.min(60, left);
                text.append(tree("" + (char) ('p' + p), "a b", p, 2 + 2 * p, tall, 0));
                left -= tall;
            }
            PromiseTrees x = Check.on(text.toString());
            x.days(1);
            Check.due("wood", x.now(7), row[0]);
            Check.due("rounds of " + row[0], x.rounds(), row[1]);
            Check.due("price of " + row[0], x.price(), row[2]);
            Check.due("10 at first again", x.rounds(), row[1]);
        }
    }

    // ---- draws ----

    /** The draws by the document's own words. */
    private static int[] draws(int seed, int... sizes) {
        int[] draws = new int[sizes.length];
        int x = seed;
        for (int k = 0; k < sizes.length; k++) {
            x = x * 1103515245 + 12345;
            draws[k] = (x >>> 8) % sizes[k];
        }
        return draws;
    }

    private static int stateOf(int draw) {
        return draw == 0 ? 1 : draw == 1 ? 3 : 0;
    }

    /** A draw of 12 below 'storm'; what STANDS and is 10 TALL at least falls. */
    private static void stormsByDraw() {
        boolean[] seen = new boolean[12];
        for (int seed = 0; seed < 60; seed++) {
            int first = draws(seed, 12)[0];
            seen[first] = true;
            for (int storm : new int[] {0, first, first + 1, 12}) {
                boolean storms = first < storm;
                for (int tall = 9; tall <= 10; tall++) {
                    PromiseTrees x = Check.on(FIELD + tree("p", "a b", 1, 1, tall, 99) + "grows 0;storm " + storm + ";");
                    x.drawn(1, seed);
                    int act = storms ? draws(seed, 12, 1, 10)[2] : draws(seed, 12, 10)[1];
                    String what = "seed " + seed + ", storm " + storm + ", tall " + tall;
                    Check.due(what, x.promise(0, 6), storms && tall >= 10 ? 2 : stateOf(act));
                    Check.due(what, x.promise(0, 4), tall + (act == 2 && !(storms && tall >= 10) ? 5 : 0));
                }
            }
        }
        for (int k = 0; k < 12; k++) {
            Check.due("a draw of " + k + " was seen", seen[k], true);
        }
        PromiseTrees y = Check.on(FIELD + tree("p", "a b", 1, 1, 60, 99) + "storm 12;");
        y.keep(0);
        y.drawn(60, 3);
        Check.due("a kept one does not fall by storm", y.now(2), 1);
        PromiseTrees z = Check.on(FIELD + tree("p", "a b", 1, 1, 60, 99) + "storm 12;");
        z.free(0);
        z.drawn(60, 3);
        Check.due("nor a stump", z.now(4), 1);
    }

    /** Each, if it can be: one a day of a man, none that clashes, watered once a day. */
    private static void actsByDraw() {
        int both = 0;
        int again = 0;
        for (int seed = 0; seed < 600; seed++) {
            int[] d = draws(seed, 12, 10, 10);
            PromiseTrees x = Check.on(FIELD + tree("p", "a b", 1, 1, 20, 99) + tree("q", "a b", 3, 3, 20, 99)
                + "grows 0;storm 0;");
            x.water(0);
            if (d[1] == 0 && d[2] == 0) {
                x.drawn(1, seed);
                Check.due("one a day", x.now(2) * 10 + x.now(1), 12);
                both++;
            } else if (d[1] == 2) {
                x.drawn(1, seed);
                Check.due("watered by the call, not again by a draw", x.promise(0, 4), 25);
                again++;
            }
        }
        Check.due("seen", both > 0 && again > 0, true);
        for (int seed = 0; seed < 600; seed++) {
            int[] d = draws(seed, 12, 10, 10);
            if (d[1] == 0 && d[2] == 0) {
                PromiseTrees x = Check.on(FIELD + tree("p", "a b", 1, 1, 20, 99) + tree("q", "b a", 3, 3, 20, 99)
                    + "grows 0;storm 0;");
                x.drawn(1, seed);
                Check.due("of each man one", x.now(2), 3);
                PromiseTrees y = Check.on(FIELD + tree("p", "a b", 1, 1, 20, 99) + tree("q", "b a", 3, 3, 20, 99)
                    + "clash p q;grows 0;storm 0;");
                y.drawn(1, seed);
                Check.due("of two that clash the first", y.now(2), 1);
            }
        }
    }

    /** An int, wrapping; the draw is of its bits without a sign. */
    private static void drawsWrap() {
        int negative = 0;
        for (int seed : new int[] {Integer.MIN_VALUE, Integer.MIN_VALUE + 1, -2, -1, 0, 1, Integer.MAX_VALUE - 1,
            Integer.MAX_VALUE, 0x40000000, 0x7fffff00}) {
            PromiseTrees x = Check.on(FIELD + tree("p", "a b", 1, 1, 5, 99) + tree("q", "b a", 2, 2, 5, 99)
                + tree("r", "a b", 3, 3, 5, 99) + "grows 0;storm 0;");
            x.drawn(1, seed);
            int[] d = draws(seed, 12, 10, 10, 10);
            negative += seed * 1103515245 + 12345 < 0 ? 1 : 0;
            boolean keptFirst = d[1] == 0;
            Check.due("p by " + seed, x.promise(0, 6), stateOf(d[1]));
            Check.due("q by " + seed, x.promise(1, 6), stateOf(d[2]));
            Check.due("r by " + seed, x.promise(2, 6), d[3] == 0 && keptFirst ? 0 : stateOf(d[3]));
        }
        Check.due("some are below 0", negative > 0, true);
    }
}
