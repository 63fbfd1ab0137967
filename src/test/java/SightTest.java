/** Promises 16 to 21: shade, light, what falls and is shut when one is broken, ways and what bars them. */
public final class SightTest {
    private static final String COLUMN = "land 3 8;man a 0 0;man b 2 7;promise p a b 1 7 35 9;promise q a b 1 6 31 9;"
        + "promise r b a 1 4 20 9;promise s b a 1 2 10 9;promise t b a 1 0 0 9;promise u a b 2 0 0 9;";

    public static void main(String[] args) {
        shade();
        light();
        falls();
        ways();
        bars();
        Check.close();
    }

    private static void shade() {
        PromiseTrees x = Check.on(COLUMN);
        Check.due("p: 4, 15, 25, 35 taller, 1, 3, 5, 7 off", x.shades(0), 4 + 8 + 16);
        Check.due("q: 11, 21, 31 taller, 2, 4, 6 off", x.shades(1), 4 + 8 + 16);
        Check.due("r: 10, 20 taller, 2, 4 off", x.shades(2), 8 + 16);
        Check.due("s: 10 taller, 2 off", x.shades(3), 16);
        Check.due("t shades none", x.shades(4), 0);
        Check.due("another column", x.promise(5, 7), 0);
        x.water(0);
        Check.due("now q too", x.shades(0), 2 + 4 + 8 + 16);
        x.keep(1);
        Check.due("a kept tree shades", x.shades(1), 4 + 8 + 16);
        x.free(3);
        Check.due("a stump does not", x.shades(3), 0);
        Check.due("nor is it shaded", x.shades(2), 16);
        Check.due("nor is it shaded", x.promise(3, 7), 0);
        x.breaks(4);
        Check.due("nor is what fell", x.shades(2), 0);
        Check.due("nor is what fell", x.promise(4, 7), 0);
        x.breaks(2);
        Check.due("what fell shades nothing", x.shades(2), 0);
        for (int p : new int[] {-1, 6, Integer.MAX_VALUE, Integer.MIN_VALUE}) {
            Check.due("shades of none", x.shades(p), -1);
        }
    }

    private static void light() {
        PromiseTrees x = Check.on("land 3 3;man a 0 0;man b 2 0;promise p a b 1 2 9 9;promise q b a 0 2 10 9;");
        // by rows: door, light (9 is not 10 taller, 2 off), door; shade, shade, light; tree, tree, light
        Check.due("how many", x.light(-1), 3);
        Check.due("the first", x.light(0), 1);
        Check.due("the second", x.light(1), 12);
        Check.due("the third", x.light(2), 22);
        Check.due("no fourth", x.light(3), -1);
        Check.due("light -2", x.light(-2), -1);
        Check.due("light MIN", x.light(Integer.MIN_VALUE), -1);
        Check.due("light MAX", x.light(Integer.MAX_VALUE), -1);
        x.free(0);
        Check.due("a stump is no light, but shades nothing", x.light(-1), 4);
        Check.due("the cell that it shaded", x.light(1), 11);
        x.breaks(1);
        // q lies over 0 1 and 0 0; its own cell is free
        Check.due("a trunk is no light", x.light(-1), 5);
        Check.due("where a tree fell is", x.light(3), 20);
        PromiseTrees y = Check.on("land 2 3;man a 0 0;man b 1 2;promise p b a 0 2 5 9;promise q a b 1 1 4 9;");
        Check.due("5 shades a cell next to it, 4 none", y.light(-1), 1);
        Check.due("above q", y.light(0), 1);
        y.keep(0);
        Check.due("a kept tree shades cells", y.light(-1), 1);
    }

    private static void falls() {
        PromiseTrees x = Check.on(Check.WOOD);
        int[] falls = {3, 2, 4, 8, 19};
        int[] shuts = {5, 2, 2, 1, 8};
        for (int p = 0; p < 5; p++) {
            Check.due("falls " + p, x.falls(p), falls[p]);
            Check.due("shuts " + p, x.shuts(p), shuts[p]);
        }
        Check.due("nothing fell by asking", x.now(3) + x.now(5), 0);
        x.keep(0);
        Check.due("a kept one may be struck", x.falls(4), 19);
        Check.due("but not broken", x.falls(0), -1);
        Check.due("shuts likewise", x.shuts(0), -1);
        x.breaks(1);
        Check.due("what fell is not told again", x.falls(4), 17);
        Check.due("falls of one that fell", x.falls(1), -1);
        Check.due("cells that are shut are not told again", x.shuts(4), 6);
        x.free(2);
        Check.due("falls of a stump", x.falls(2), -1);
        for (int p : new int[] {-1, 5, 10, Integer.MAX_VALUE}) {
            Check.due("falls of none", x.falls(p), -1);
            Check.due("shuts of none", x.shuts(p), -1);
        }
    }

    private static void ways() {
        PromiseTrees x = Check.on(Check.WOOD);
        int[][] due = {{0, 7, 4}, {7, 0, 9}, {4, 9, 0}};
        for (int m = 0; m < 3; m++) {
            for (int o = 0; o < 3; o++) {
                Check.due("way " + m + " " + o, x.way(m, o), due[m][o]);
            }
        }
        int[][] wrong = {{-1, 0}, {0, -1}, {3, 0}, {0, 3}, {3, 3}, {Integer.MIN_VALUE, 0}};
        for (int[] w : wrong) {
            Check.due("way of none", x.way(w[0], w[1]), -1);
        }
        x.breaks(4);
        Check.due("round the trunks", x.way(0, 1), 11);
        String wall = "land 3 3;man a 0 0;man b 2 2;man c 1 1;promise p b a 1 0 0 9;promise q a b 1 2 0 9;";
        PromiseTrees y = Check.on(wall);
        Check.due("over another door", y.way(0, 1), 4);
        y = Check.on(wall + "promise r a b 0 1 0 9;");
        Check.due("no way", y.way(0, 1), -1);
        Check.due("nor back", y.way(1, 0), -1);
        Check.due("to himself", y.way(0, 0), 0);
        y.keep(1);
        Check.due("a kept tree is in the way", y.way(0, 2), -1);
        y.free(0);
        Check.due("a stump is not", y.way(0, 2), 2);
        y.breaks(2);
        Check.due("a trunk is: r lies over 0 2, its own cell is free", y.way(0, 2), 2);
        PromiseTrees z = Check.on("land 2 2;man a 0 0;man b 1 1;promise p b a 1 0 0 9;promise q a b 0 1 0 9;");
        z.breaks(0);
        Check.due("a shut door may be gone from", z.way(0, 1), 2);
        Check.due("and gone to", z.way(1, 0), 2);
        PromiseTrees w = Check.on("land 8 2;man a 0 0;man b 7 0;man c 4 0;promise p a b 2 0 20 9;promise q b a 5 1 9 9;"
            + "promise r b a 4 1 9 9;");
        Check.due("over the third door", w.way(0, 1), 9);
        w.breaks(0);
        Check.due("a third door that is shut is in the way", w.way(0, 1), -1);
    }

    private static void bars() {
        PromiseTrees x = Check.on(Check.WOOD);
        Check.due("bars", x.bars(0, 2), 4);
        Check.due("bars back", x.bars(2, 0), 4);
        Check.due("oak and elm shut what ash, yew and fir leave open", x.bars(0, 1), 1);
        int[][] wrong = {{0, 0}, {-1, 0}, {0, -1}, {3, 0}, {0, 3}, {7, 7}};
        for (int[] w : wrong) {
            Check.due("bars of none", x.bars(w[0], w[1]), -1);
        }
        x.keep(2);
        Check.due("a kept word is not asked of", x.bars(0, 2), 0);
        PromiseTrees y = Check.on("land 3 3;man a 0 0;man b 2 2;man c 1 1;promise p b a 1 0 0 9;promise q a b 1 2 0 9;"
            + "promise r a b 0 1 0 9;");
        Check.due("none is open", y.bars(0, 1), -1);
        Check.due("nothing changed", x.now(3), 0);
    }
}
