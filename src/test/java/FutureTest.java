/** Promises 32 to 36: how soon, the first word broken, what is broken in some days, days by draws, odds. */
public final class FutureTest {
    private static final String ONE = "man a 0 0;man b 3 3;promise p a b 1 0 20 300;grows 0;";

    public static void main(String[] args) {
        when();
        first();
        broken();
        draws();
        storms();
        drawnDays();
        odds();
        Check.close();
    }

    private static void when() {
        PromiseTrees x = Check.on(Check.WOOD);
        Check.due("now", x.when(4, 40), 0);
        Check.due("a day on", x.when(4, 41), 1);
        Check.due("at the beginning of a day", x.when(4, 42), 1);
        Check.due("two", x.when(4, 43), 2);
        Check.due("on the last day", x.when(4, 80), 20);
        Check.due("behind its day it stands no more", x.when(4, 81), -1);
        Check.due("shaded: never", x.when(0, 21), -1);
        Check.due("what falls on it ends it", x.when(1, 26), -1);
        for (int h : new int[] {-1, 100, Integer.MAX_VALUE, Integer.MIN_VALUE}) {
            Check.due("height " + h, x.when(4, h), -1);
        }
        for (int p : new int[] {-1, 5, Integer.MAX_VALUE}) {
            Check.due("of none", x.when(p, 0), -1);
        }
        x.keep(2);
        Check.due("a kept one does not stand", x.when(2, 0), -1);
        x.days(2);
        Check.due("from now on", x.when(4, 3), 2);
        Check.due("nothing is done by asking", x.now(0), 2);
        PromiseTrees y = Check.on("man a 0 0;man b 3 3;promise p a b 1 0 0 399;grows 9;");
        Check.due("99", y.when(0, 99), 11);
        PromiseTrees z = Check.on("man a 0 0;man b 3 3;promise p a b 1 0 0 399;grows 0;");
        Check.due("never", z.when(0, 1), -1);
        for (int k = 0; k < 7; k++) {
            z.days(60);
        }
        Check.due("all are over", z.when(0, 0), -1);
        z.undo();
        z.days(39);
        Check.due("on the last day of all", z.when(0, 0), 399);
        Check.due("and the first that is broken", z.first(), 399);
        PromiseTrees w = Check.on("man a 0 0;man b 3 3;promise p a b 1 3 30 2;promise q b a 1 2 20 99;grows 1;");
        Check.due("shaded till the other one falls", w.when(1, 21), 4);
    }

    private static void first() {
        PromiseTrees x = Check.on(Check.WOOD);
        Check.due("first", x.first(), 3);
        x.free(0);
        Check.due("fir on the same day", x.first(), 3);
        x.keep(3);
        Check.due("elm", x.first(), 5);
        x.days(6);
        Check.due("what fell is not told again", x.first(), 9);
        x.free(2);
        x.free(4);
        Check.due("none", x.first(), -1);
        Check.due("none of none", new PromiseTrees().first(), -1);
    }

    private static void broken() {
        PromiseTrees x = Check.on(Check.WOOD);
        Check.due("one day", x.broken(1), 0);
        Check.due("three", x.broken(3), 0);
        Check.due("four", x.broken(4), 9);
        Check.due("sixty", x.broken(60), 31);
        for (int n : new int[] {0, -1, 61, Integer.MAX_VALUE, Integer.MIN_VALUE}) {
            Check.due("broken " + n, x.broken(n), -1);
        }
        x.days(4);
        Check.due("what fell is not told again", x.broken(60) & 9, 0);
        Check.due("nothing is done by asking", x.now(0), 4);
        PromiseTrees y = Check.on("land 8 2;man a 0 0;man b 7 0;promise p a b 1 0 60 0;promise q a b 2 0 9 99;");
        y.keep(1);
        Check.due("a kept word that is struck is broken", y.broken(1), 3);
        Check.due("and tells the first day", y.first(), 0);
        for (int k = 0; k < 7; k++) {
            y.days(60);
        }
        Check.due("no days are left", y.broken(60), 0);
    }

    /** The draws by the document's own words. */
    private static int[] drawsOf(int seed, int... sizes) {
        int[] draws = new int[sizes.length];
        int x = seed;
        for (int k = 0; k < sizes.length; k++) {
            x = x * 1103515245 + 12345;
            draws[k] = (x >>> 8) % sizes[k];
        }
        return draws;
    }

    private static void draws() {
        int[] seen = new int[4];
        for (int seed = -40; seed < 40; seed++) {
            PromiseTrees x = Check.on(ONE + "storm 0;");
            Check.due("one day", x.drawn(1, seed), 1);
            int act = Math.min(3, drawsOf(seed, 12, 10)[1]);
            seen[act]++;
            int[] states = {1, 3, 0, 0};
            Check.due("state by seed " + seed, x.promise(0, 6), states[act]);
            Check.due("height by seed " + seed, x.promise(0, 4), act == 2 ? 25 : 20);
            Check.due("a day went by", x.now(0), 1);
            Check.due("it can be undone", x.undo(), 0);
            Check.due("as it was", x.now(0) + x.now(2) + x.now(4), 0);
        }
        Check.due("each act was seen", seen[0] > 0 && seen[1] > 0 && seen[2] > 0 && seen[3] > 0, true);
    }

    private static void storms() {
        String two = "land 8 8;man a 0 0;man b 7 7;promise p a b 1 0 9 300;promise q b a 1 5 10 300;grows 0;";
        int struck = 0;
        for (int seed = 100; seed < 160; seed++) {
            PromiseTrees x = Check.on(two + "storm 12;");
            x.drawn(1, seed);
            int[] draws = drawsOf(seed, 12, 2, 10, 10);
            boolean falls = draws[1] == 1;
            Check.due("ten tall may fall, nine not: " + seed, x.now(3), falls ? 2 : 0);
            struck += falls ? 1 : 0;
            Check.due("p behind the storm", x.promise(0, 6), draws[2] == 0 ? 1 : draws[2] == 1 ? 3 : 0);
            PromiseTrees y = Check.on(two + "storm 4;");
            y.drawn(1, seed);
            int[] calm = drawsOf(seed, 12, 10, 10);
            boolean storm = draws[0] < 4;
            int act = storm ? draws[2] : calm[1];
            Check.due("below storm alone: " + seed, y.promise(0, 6), act == 0 ? 1 : act == 1 ? 3 : 0);
        }
        Check.due("some were struck", struck > 0 && struck < 60, true);
    }

    private static void drawnDays() {
        PromiseTrees x = Check.on(ONE);
        for (int n : new int[] {0, -1, 61, Integer.MAX_VALUE, Integer.MIN_VALUE}) {
            Check.due("drawn " + n, x.drawn(n, 1), -1);
        }
        Check.due("nothing to undo", x.undo(), -1);
        for (int k = 0; k < 6; k++) {
            Check.due("sixty", x.drawn(60, 5), 60);
        }
        Check.due("as many as are left", x.drawn(60, 5), 40);
        Check.due("none", x.drawn(60, 5), 0);
        Check.due("which is not undone", x.undo(), 6);
        x.days(39);
        Check.due("the last day", x.drawn(2, 5), 1);
        Check.due("is undone", x.undo(), 7);
        Check.due("day 399", x.now(0), 399);
        PromiseTrees y = Check.on("man a 0 0;man b 3 3;");
        Check.due("no promises", y.drawn(1, 1), -1);
        PromiseTrees z = Check.on("man a 0 0;man b 3 3;promise p a b 1 0 20 300;promise q a b 2 0 20 300;clash p q;storm 0;");
        z.drawn(60, 77);
        PromiseTrees w = Check.on("man a 0 0;man b 3 3;promise p a b 1 0 20 300;promise q a b 2 0 20 300;clash p q;storm 0;");
        int seed = 77;
        for (int k = 0; k < 60; k++) {
            w.drawn(1, seed);
            for (int draw = 0; draw < 3; draw++) {
                seed = seed * 1103515245 + 12345;
            }
        }
        for (int what = 0; what < 9; what++) {
            Check.due("sixty at once, or one by one", z.promise(0, what), w.promise(0, what));
            Check.due("sixty at once, or one by one", z.promise(1, what), w.promise(1, what));
        }
    }

    private static void odds() {
        PromiseTrees x = Check.on(Check.WOOD);
        int many = 0;
        for (int k = 0; k < 30; k++) {
            x.drawn(20, 1000 + k);
            many += x.promise(1, 6) == 1 ? 1 : 0;
            x.undo();
        }
        Check.due("odds", x.odds(1, 30, 1000), many);
        Check.due("not none, not all", many > 0 && many < 30, true);
        int wrapped = 0;
        for (int k = 0; k < 4; k++) {
            x.drawn(20, Integer.MAX_VALUE - 1 + k);
            wrapped += x.promise(4, 6) == 1 ? 1 : 0;
            x.undo();
        }
        Check.due("odds over the greatest seed", x.odds(4, 4, Integer.MAX_VALUE - 1), wrapped);
        Check.due("nothing is done by asking", x.now(0), 0);
        for (int n : new int[] {0, -1, 31, Integer.MAX_VALUE}) {
            Check.due("odds of " + n, x.odds(0, n, 1), -1);
        }
        for (int p : new int[] {-1, 5, Integer.MIN_VALUE}) {
            Check.due("odds of no such one", x.odds(p, 5, 1), -1);
        }
        PromiseTrees y = Check.on(ONE + "storm 12;");
        y.keep(0);
        Check.due("a word that is kept", y.odds(0, 30, 9), 30);
        y.undo();
        y.free(0);
        Check.due("one that is freed", y.odds(0, 30, 9), 0);
    }
}
