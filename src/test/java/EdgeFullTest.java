/** The empty headland and the full one: 6 men, 10 promises, 8 clashes on 8 by 8; and lands walled up to their edges. */
public final class EdgeFullTest {
    private static final int NONE = PromiseTrees.NONE;
    private static final int[] CLASHES = {6, 9, 9, 6, 96, 16, 144, 64, 512, 256};

    public static void main(String[] args) {
        empty();
        told();
        shade();
        light();
        falls();
        reckoned();
        future();
        allFell();
        allStumps();
        someKept();
        drawn();
        said();
        keptInImages();
        wallsAcross();
        longWays();
        Check.close();
    }

    /** Man m's door is m 0. Promise p is given by p % 6 to the next; eight trees in row 4, two in row 6. */
    private static String full() {
        StringBuilder text = new StringBuilder("land 8 8;");
        for (int m = 0; m < 6; m++) {
            text.append("man ").append((char) ('a' + m)).append(' ').append(m).append(" 0;");
        }
        for (int p = 0; p < 10; p++) {
            text.append("promise ").append((char) ('k' + p)).append(' ').append((char) ('a' + p % 6)).append(' ')
                .append((char) ('a' + (p + 1) % 6)).append(' ').append(xOf(p)).append(' ').append(yOf(p)).append(' ')
                .append(tallOf(p)).append(' ').append(10 * p + 9).append(';');
        }
        return text + "clash k l;clash m n;clash o p;clash q r;clash s t;clash k m;clash l n;clash o q;grows 1;storm 0;";
    }

    private static int xOf(int p) {
        return p < 8 ? p : p == 8 ? 0 : 7;
    }

    private static int yOf(int p) {
        return p < 8 ? 4 : 6;
    }

    private static int tallOf(int p) {
        return p < 8 ? 5 * p : p == 8 ? 50 : 60;
    }

    private static void empty() {
        PromiseTrees x = new PromiseTrees();
        Check.due("an empty headland", x.headland(), 0);
        for (int p = -1; p <= 1; p++) {
            Check.due("acts", x.keep(p) + x.breaks(p) + x.free(p) + x.water(p), -4);
            Check.due("sights", x.shades(p) + x.falls(p) + x.shuts(p), -3);
            Check.due("ways", x.way(p, p) + x.bars(p, 0) + x.bars(0, p), -3);
            Check.due("futures", x.when(p, 0) + x.odds(p, 1, 1) + x.share(0, p), -3);
            Check.due("throws", Whole.promise(x, p, 0) + Whole.man(x, p, 0), 2 * Whole.THROWS);
        }
        Check.due("most", x.most() + x.chosen(), 0);
        Check.due("ring", x.ring() + x.ringAt(0), -2);
        Check.due("sworn", x.sworn() + x.surely() + x.ask(), -3);
        Check.due("rounds", x.rounds() * 100 + x.price(), 110);
        Check.due("first", x.first(), NONE);
        Check.due("broken", x.broken(60), 0);
        Check.due("drawn", x.drawn(60, 1), NONE);
        Check.due("a book of a day", Check.book(x, "day 60;", 1), NONE);
        Check.due("told", x.told(0) * 1000 + x.told(1) * 100 + x.told(2), 160);
        Check.due("a sentence", Check.sentence(x, "not stands"), 2);
        Check.due("said of none", x.said(NONE) * 10 + x.said(0), -1);
        Check.due("light", x.light(NONE), 16);
        Check.due("undo", x.undo(), 0);
        Check.due("image", x.image(1) && x.restore(1), true);
        for (int what = 0; what < 8; what++) {
            Check.due("now", x.now(what), 0);
        }
    }

    private static void told() {
        PromiseTrees x = new PromiseTrees();
        Check.due("lines", Check.headland(x, full()), 1 + 6 + 10 + 8 + 2);
        int[] counts = {6, 10, 8, 8, 8, 1, 0, 0};
        int[] nows = {0, 1023, 0, 0, 0, 0, 250, 0};
        for (int what = 0; what < 8; what++) {
            Check.due("count " + what, x.count(what), counts[what]);
            Check.due("now " + what, x.now(what), nows[what]);
        }
        for (int p = 0; p < 10; p++) {
            int[] due = {p % 6, (p + 1) % 6, xOf(p), yOf(p), tallOf(p), 10 * p + 9, 0, p == 0 || p == 7 ? 1 : 0, CLASHES[p]};
            for (int what = 0; what < 9; what++) {
                Check.due("promise " + p + " " + what, Whole.promise(x, p, what), due[what]);
            }
            Check.due("its cell", x.cell(xOf(p), yOf(p)), p);
        }
        for (int m = 0; m < 6; m++) {
            int gave = m < 4 ? 65 << m : 1 << m;
            int got = m == 0 ? 32 : m < 5 ? 65 << (m - 1) : 16;
            int[] due = {m, 0, gave, got, 0, 0};
            for (int what = 0; what < 6; what++) {
                Check.due("man " + m + " " + what, Whole.man(x, m, what), due[what]);
            }
            Check.due("his door", x.cell(m, 0), 40 + m);
        }
        Check.due("no more", Whole.promise(x, 10, 0) + Whole.man(x, 6, 0), 2 * Whole.THROWS);
    }

    private static void shade() {
        PromiseTrees x = Check.on(full());
        for (int p = 0; p < 10; p++) {
            Check.due("shades " + p, x.shades(p), p == 8 ? 1 : p == 9 ? 128 : 0);
        }
        Check.due("none such", x.shades(10), NONE);
        x.days(1);
        for (int p = 0; p < 10; p++) {
            Check.due("grows " + p, x.promise(p, 4), tallOf(p) + (p == 0 || p == 7 ? 0 : 1));
        }
    }

    /** By columns 4, 1, 2, 3, 3, 3, 4, 5 cells with nothing are shaded. */
    private static void light() {
        PromiseTrees x = Check.on(full());
        Check.due("how many", x.light(NONE), 64 - 6 - 10 - 25);
        Check.due("the first: 1 1", x.light(0), 11);
        Check.due("then 2 1", x.light(1), 12);
        Check.due("then 1 2", x.light(2), 21);
        Check.due("then nothing of rows 3 and 4: 1 5", x.light(3), 51);
        Check.due("no such", x.light(23), NONE);
        Check.due("the last", x.light(22), 77);
    }

    private static void falls() {
        int[] falls = {1, 2, 4, 8, 16, 60, 124, 252, 257, 764};
        int[] shuts = {1, 1, 2, 2, 3, 10, 11, 12, 6, 18};
        PromiseTrees x = Check.on(full());
        for (int p = 0; p < 10; p++) {
            Check.due("falls " + p, x.falls(p), falls[p]);
            Check.due("shuts " + p, x.shuts(p), shuts[p]);
        }
        Check.due("none such", x.falls(10) + x.shuts(10), -2);
        for (int p = 0; p < 10; p++) {
            PromiseTrees y = Check.on(full());
            y.breaks(p);
            Check.due("fell by " + p, y.now(3), falls[p]);
            Check.due("shut by " + p, y.now(5), shuts[p]);
        }
    }

    private static void reckoned() {
        PromiseTrees x = Check.on(full());
        Check.due("most: two of k l m n, two of o p q r, one of s t", x.most(), 5);
        Check.due("the least as bits: l m, p q, s", x.chosen(), 2 + 4 + 32 + 64 + 256);
        Check.due("ring", x.ring(), 6);
        for (int k = 0; k < 6; k++) {
            Check.due("its words", x.ringAt(k), k);
        }
        Check.due("no seventh", x.ringAt(6), NONE);
        Check.due("sworn", Check.sworn(x, 1, 1, 1, 1, 1, 1), 16);
        Check.due("surely, ask", x.surely() * 10 + x.ask(), 480);
        Check.due("sworn by all", Check.sworn(x, 2, 2, 2, 2, 1, 1) * 10000 + x.surely(), 11023);
        Check.due("the last has no other", Check.sworn(x, 2, 2, 2, 2, 1, 2), 0);
        for (int p = 0; p < 10; p++) {
            Check.due("as much as the thirst", x.share(740, p), 99 - tallOf(p));
            Check.due("one more to the most thirsty", x.share(741, p), 99 - tallOf(p) + (p == 0 ? 1 : 0));
            Check.due("one less to the least", x.share(739, p), 99 - tallOf(p) - (p == 0 ? 1 : 0));
        }
        Check.due("price", x.rounds() * 100 + x.price(), 1100);
        Check.due("a way over doors", x.way(0, 5), 5);
        Check.due("nothing bars it", x.bars(0, 5), 0);
        Check.due("none such", x.way(0, 6) + x.bars(6, 0), -2);
    }

    private static void future() {
        PromiseTrees x = Check.on(full());
        Check.due("first", x.first(), 9);
        Check.due("in 9 days", x.broken(9), 0);
        Check.due("in 10", x.broken(10), 1);
        Check.due("in 20", x.broken(20), 3);
        Check.due("in 60", x.broken(60), 63);
        Check.due("the last one grows", x.when(9, 99), 39);
        Check.due("s stands on its last day", x.when(8, 99), 49);
        Check.due("none such", x.when(10, 0), NONE);
        Check.due("days", x.days(60), 60);
        Check.due("what fell", x.now(3), 63);
        x.days(40);
        Check.due("on day 99 all fell", x.now(3), 1023);
        Check.due("none stand", x.first(), NONE);
        PromiseTrees y = Check.on("man a 0 0;man b 3 3;promise p a b 1 3 30 397;promise q b a 1 2 20 399;");
        Check.due("shaded till day 397, a day's growth on day 398", y.when(1, 21), 399);
        Check.due("not two", y.when(1, 22), NONE);
    }

    private static void allFell() {
        PromiseTrees x = Check.on(full());
        Check.due("the tallest", x.breaks(9), 0);
        Check.due("the next", x.breaks(8), 0);
        Check.due("what is left", x.now(1), 2);
        Check.due("the last", x.breaks(1), 0);
        Check.due("all fell", x.now(3), 1023);
        Check.due("wood", x.now(7) * 1000 + x.now(6), 250000);
        for (int m = 0; m < 6; m++) {
            Check.due("his were broken", x.man(m, 5), m < 4 ? 2 : 1);
        }
        Check.due("most", x.most() * 10 + x.chosen(), 0);
        Check.due("ring", x.ring(), NONE);
        Check.due("first", x.first(), NONE);
        Check.due("price: 250 by 6 is never even", x.rounds(), 60);
        Check.due("32 rounds up to 42, then to and fro", x.price(), 42);
        for (int left = 2; left >= 0; left--) {
            Check.due("undone", x.undo(), left);
        }
        Check.due("all stand", x.now(1), 1023);
    }

    private static void allStumps() {
        PromiseTrees x = Check.on(full());
        for (int p = 0; p < 10; p++) {
            Check.due("free", x.free(p), 0);
        }
        Check.due("stumps", x.now(4), 1023);
        for (int p = 0; p < 10; p++) {
            Check.due("its cell", x.cell(xOf(p), yOf(p)), 20 + p);
        }
        Check.due("nothing shades", x.light(NONE), 48);
        for (int left = 7; left >= 0; left--) {
            Check.due("undo", x.undo(), left);
        }
        Check.due("the first two stay", x.now(4), 3);
    }

    private static void someKept() {
        PromiseTrees x = Check.on(full());
        int[] why = {0, 2, 2, 0, 0, 2, 2, 0, 0, 2};
        for (int p = 0; p < 10; p++) {
            Check.due("keep " + p, x.keep(p), why[p]);
        }
        Check.due("kept", x.now(2), 1 + 8 + 16 + 128 + 256);
        Check.due("words of the others are open", x.now(1), 2 + 4 + 32 + 64 + 512);
        Check.due("all clash with kept ones", x.most(), 0);
        for (int p = 0; p < 10; p++) {
            Check.due("water " + p, x.water(p), (x.now(1) & (1 << p)) != 0 ? 0 : 1);
        }
    }

    private static int nextSeed(int seed) {
        return seed * 1103515245 + 12345;
    }

    /** One day by draws, as the document says it: the storm's draw, then one for each promise. */
    private static void drawn() {
        for (int seed = 0; seed < 60; seed++) {
            PromiseTrees x = Check.on(full());
            Check.due("drawn", x.drawn(1, seed * 7919), 1);
            int s = nextSeed(seed * 7919);
            int kept = 0;
            int stumps = 0;
            int busy = 0;
            int wet = 0;
            for (int p = 0; p < 10; p++) {
                s = nextSeed(s);
                int d = (s >>> 8) % 10;
                if (d == 0 && (CLASHES[p] & kept) == 0 && (busy & (1 << p % 6)) == 0) {
                    kept |= 1 << p;
                    busy |= 1 << p % 6;
                } else if (d == 1) {
                    stumps |= 1 << p;
                } else if (d == 2) {
                    wet |= 1 << p;
                }
            }
            Check.due("kept by " + seed, x.now(2), kept);
            Check.due("freed by " + seed, x.now(4), stumps);
            Check.due("none fell", x.now(3), 0);
            for (int p = 1; p < 7; p++) {
                boolean grew = ((kept | stumps) & (1 << p)) == 0;
                Check.due("tall", x.promise(p, 4), tallOf(p) + ((wet & (1 << p)) != 0 ? 5 : 0) + (grew ? 1 : 0));
            }
        }
        twentiethDay();
    }

    /** On which day, from 0, the draws of a seed keep the only promise of a land without storms. */
    private static int dayKept(int seed) {
        int s = seed;
        for (int day = 0; day < 60; day++) {
            s = nextSeed(nextSeed(s));
            int d = (s >>> 8) % 10;
            if (d < 2) {
                return d == 0 ? day : NONE;
            }
        }
        return NONE;
    }

    /** Odds are told behind 20 days: a word kept on the last of them counts, one kept on the next does not. */
    private static void twentiethDay() {
        int on20 = 0;
        int on21 = 0;
        for (int seed = 0; seed < 20000; seed++) {
            int day = dayKept(seed * 1000003);
            if (day == 19 || day == 20) {
                PromiseTrees x = Check.on("man a 0 0;man b 3 3;promise p a b 1 1 0 399;storm 0;grows 0;");
                Check.due("kept on day " + day, x.odds(0, 1, seed * 1000003), day == 19 ? 1 : 0);
                on20 += day == 19 ? 1 : 0;
                on21 += day == 20 ? 1 : 0;
            }
        }
        Check.due("both were seen", on20 > 0 && on21 > 0, true);
    }

    private static void said(PromiseTrees x, String text, int... promises) {
        Check.sentence(x, text);
        Check.due("how many: " + text, x.said(NONE), promises.length);
        for (int k = 0; k < promises.length; k++) {
            Check.due(text + ": " + k, x.said(k), promises[k]);
        }
        Check.due("no more: " + text, x.said(promises.length), NONE);
    }

    private static void said() {
        PromiseTrees x = Check.on(full());
        said(x, "stands", 0, 1, 2, 3, 4, 5, 6, 7, 8, 9);
        said(x, "shaded", 0, 7);
        said(x, "not shaded", 1, 2, 3, 4, 5, 6, 8, 9);
        said(x, "by a", 0, 6);
        said(x, "by f", 5);
        said(x, "to a", 5);
        said(x, "to e", 3, 9);
        said(x, "tall > 44", 8, 9);
        said(x, "tall = 60", 9);
        said(x, "till = 99", 9);
        said(x, "till < 10", 0);
        said(x, "number = 9", 9);
        said(x, "number > 9");
        said(x, "kept");
        x.free(8);
        said(x, "shaded", 7);
        said(x, "stump", 8);
        x.breaks(9);
        said(x, "shaded");
        said(x, "fell", 2, 3, 4, 5, 6, 7, 9);
        Check.due("forty lines on the last", Check.book(x, "l watered;" + "day 1;".repeat(39), 0), NONE);
    }

    private static void keptInImages() {
        PromiseTrees x = Check.on(full());
        x.keep(9);
        x.water(8);
        x.image(1);
        Check.headland(x, "man z 3 3;");
        Check.due("restore", x.restore(1), true);
        Check.due("kept", x.now(2) * 10000 + x.now(1), 512 * 10000 + 511);
        Check.due("its clash", x.keep(8), 2);
        Check.due("watered on this day", x.water(8), 2);
        Check.due("he kept one on this day", x.keep(3), 3);
        Check.due("the last door", x.cell(5, 0), 45);
        Check.due("the last tree", x.cell(7, 6), 9);
        Check.due("its name", Check.book(x, "t kept;", 0) * 10 + x.told(0), 1);
        Check.due("the last clash", x.promise(6, 8), 144);
    }

    // ---- ways ----

    /** A wall from edge to edge leaves no way, whatever the land's size: none goes round outside. */
    private static void wallsAcross() {
        for (int wide = 3; wide <= 8; wide++) {
            for (int high = 2; high <= 8; high++) {
                for (int at = 1; at < wide - 1; at++) {
                    walled(wide, high, at, true);
                }
            }
        }
        for (int wide = 2; wide <= 8; wide++) {
            for (int high = 3; high <= 8; high++) {
                for (int at = 1; at < high - 1; at++) {
                    walled(wide, high, at, false);
                }
            }
        }
    }

    private static void walled(int wide, int high, int at, boolean column) {
        StringBuilder text = new StringBuilder("land " + wide + " " + high + ";man a 0 0;man b " + (wide - 1) + " "
            + (high - 1) + ";");
        int many = column ? high : wide;
        for (int k = 0; k < many; k++) {
            text.append("promise ").append((char) ('k' + k)).append(" a b ").append(column ? at : k).append(' ')
                .append(column ? k : at).append(" 0 9;");
        }
        PromiseTrees x = Check.on(text.toString());
        String what = wide + " by " + high + ", a wall at " + at;
        Check.due("no way: " + what, x.way(0, 1), NONE);
        Check.due("no way back: " + what, x.way(1, 0), NONE);
        for (int gap = 0; gap < many; gap++) {
            x.free(gap);
            Check.due("a gap: " + what, x.way(0, 1), wide + high - 2);
            x.undo();
        }
    }

    private static void longWays() {
        PromiseTrees x = Check.on("land 4 8;man a 0 0;man b 0 7;promise k a b 0 1 0 9;promise l a b 1 1 0 9;"
            + "promise m a b 2 1 0 9;promise n a b 1 3 0 9;promise o a b 2 3 0 9;promise p a b 3 3 0 9;"
            + "promise q a b 0 5 0 9;promise r a b 1 5 0 9;promise s a b 2 5 0 9;");
        Check.due("to and fro round walls", x.way(0, 1), 19);
        PromiseTrees y = Check.on("land 8 8;man a 0 0;man b 7 7;promise p b a 7 1 60 9;promise q a b 0 3 60 9;"
            + "promise r b a 7 5 60 9;");
        y.breaks(0);
        y.breaks(1);
        y.breaks(2);
        Check.due("three trunks", y.now(5), 21);
        Check.due("round trunks", y.way(0, 1), 28);
    }
}
