/** Promises 22 to 43: the last argument that is as told and the first that is not; what a refused call leaves. */
public final class EdgeReckonTest {
    private static final int MIN = Integer.MIN_VALUE;
    private static final int MAX = Integer.MAX_VALUE;
    private static final int NONE = PromiseTrees.NONE;
    private static final String PAIR = "land 8 8;man a 0 0;man b 7 0;promise p a b 1 1 20 300;promise q b a 3 3 9 300;";

    public static void main(String[] args) {
        mostAndChosen();
        ringAndRingAt();
        sworn();
        swornBytes();
        surelyAndAsk();
        share();
        roundsAndPrice();
        when();
        whenLater();
        first();
        broken();
        drawn();
        drawnLast();
        odds();
        oddsBySeed();
        book();
        bookFault();
        bookWrong();
        told();
        sentence();
        sentenceFault();
        said();
        imageAndRestore();
        restoreLeaves();
        count();
        Check.close();
    }

    private static String men(int many) {
        StringBuilder text = new StringBuilder("land 8 8;");
        for (int m = 0; m < many; m++) {
            text.append("man ").append((char) ('a' + m)).append(' ').append(m).append(" 0;");
        }
        return text.toString();
    }

    private static String tree(int p, String men, int tall, int till) {
        return "promise " + (char) ('k' + p) + " " + men + " " + p % 8 + " " + (2 + 2 * (p / 8)) + " " + tall + " " + till
            + ";";
    }

    private static PromiseTrees at(int day, String land) {
        PromiseTrees x = Check.on(land);
        for (int left = day; left > 0; left -= 60) {
            x.days(Math.min(60, left));
        }
        Check.due("the day", x.now(0), day);
        return x;
    }

    /** A call of which only what it tells changes, so that the world must be the same behind it. */
    private static void leavesWorld(String what, Whole.Call call) {
        PromiseTrees x = Whole.lived();
        String before = Whole.of(x).split("\ntold last")[0];
        call.on(x);
        Whole.same(what, Whole.of(x).split("\ntold last")[0], before);
        Check.due(what + ": what can be undone", x.undo(), 4);
    }

    /** 22, 23: how many; which, by the latest most(); NONE ahead of any. */
    private static void mostAndChosen() {
        leavesWorld("most", PromiseTrees::most);
        PromiseTrees x = new PromiseTrees();
        Check.due("ahead of any", x.chosen(), NONE);
        Check.due("of none", x.most() * 10 + x.chosen(), 0);
        StringBuilder ten = new StringBuilder(men(2));
        for (int p = 0; p < 10; p++) {
            ten.append(tree(p, "a b", 0, 9));
        }
        x = Check.on(ten.toString());
        Check.due("ten in ten days", x.most(), 10);
        Check.due("all", x.chosen(), 1023);
        x.days(1);
        Check.due("chosen stays", x.chosen(), 1023);
        Check.due("nine in nine days", x.most(), 9);
        Check.due("the least as bits", x.chosen(), 511);
        x.keep(9);
        Check.due("eight in eight", x.most(), 8);
        Check.due("the least as bits", x.chosen(), 255);
        x.undo();
        x.keep(0);
        Check.due("eight in eight", x.most() * 1000 + x.chosen(), 8000 + 510);
        x.days(8);
        Check.due("day 9: one", x.now(0) * 10 + x.most(), 91);
        x.keep(1);
        Check.due("none more on this day", x.most() * 10 + x.chosen(), 0);
        Check.headland(x, "");
        x.most();
        Check.due("the latest", x.chosen(), 0);
    }

    /** 24, 25: NONE: there is none; the k-th from 0 of the latest ring() that was not NONE. */
    private static void ringAndRingAt() {
        leavesWorld("ring", PromiseTrees::ring);
        for (int k : new int[] {-1, 2, 6, 10, MIN, MAX}) {
            Whole.refused("ringAt " + k, NONE, x -> x.ringAt(k));
        }
        PromiseTrees x = Check.on(men(3) + tree(0, "a b", 0, 9) + tree(1, "b c", 0, 9) + tree(2, "c a", 0, 9)
            + tree(3, "c b", 0, 9));
        Check.due("ahead of any", x.ringAt(0), NONE);
        Check.due("two", x.ring(), 2);
        Check.due("b c, c b", x.ringAt(0) * 10 + x.ringAt(1), 13);
        Check.due("no third", x.ringAt(2), NONE);
        x.free(3);
        Check.due("still the latest", x.ringAt(1), 3);
        Check.due("three", x.ring(), 3);
        Check.due("a b, b c, c a", x.ringAt(0) * 100 + x.ringAt(1) * 10 + x.ringAt(2), 12);
        Check.due("no fourth", x.ringAt(3), NONE);
        x.undo();
        x.ring();
        Check.due("two again: no third", x.ringAt(2), NONE);
        x.free(1);
        Check.due("none", x.ring(), NONE);
        Check.due("the latest that was not NONE", x.ringAt(0) * 10 + x.ringAt(1), 13);
        Check.headland(x, "");
        Check.due("none of none", x.ring(), NONE);
        Check.due("the latest that was not NONE", x.ringAt(0) * 10 + x.ringAt(1), 13);
    }

    /** 26: as many bytes as MEN, 1 at least. */
    private static void sworn() {
        for (int men = 0; men <= 6; men++) {
            for (int bytes = 0; bytes <= 8; bytes++) {
                PromiseTrees x = Check.on(men(men));
                boolean told = bytes == men && men > 0;
                Check.due(bytes + " bytes, " + men + " men", Check.sworn(x, new int[bytes]), told ? 1 : NONE);
                Check.due("the tape is empty", x.count(7), 0);
                Check.due("surely", x.surely(), told ? 0 : NONE);
                Check.due("ask", x.ask(), told ? 0 : NONE);
            }
        }
        Whole.unchanged("sworn by too few", NONE, x -> Check.sworn(x, 1, 1), EdgeReckonTest::livedEmpty);
        Whole.unchanged("sworn by too many", NONE, x -> Check.sworn(x, 1, 1, 1, 1), EdgeReckonTest::livedEmpty);
        Whole.unchanged("sworn by none", NONE, PromiseTrees::sworn, EdgeReckonTest::livedEmpty);
        Whole.unchanged("sworn in no way", 0, x -> Check.sworn(x, 4, 1, 1), EdgeReckonTest::livedEmpty);
    }

    private static PromiseTrees livedEmpty() {
        PromiseTrees x = Whole.lived();
        x.end(0);
        return x;
    }

    private static void swornBytes() {
        int[] ways = {1, 4, 6, 4, 1, 0};
        String four = men(2) + tree(0, "a b", 0, 9) + tree(1, "a b", 0, 9) + tree(2, "a b", 0, 9) + tree(3, "a b", 0, 9)
            + tree(4, "b a", 0, 9);
        for (int n = 0; n <= 5; n++) {
            for (int o = 0; o <= 2; o++) {
                PromiseTrees x = Check.on(four);
                Check.due("sets by " + n + " and " + o, Check.sworn(x, n, o), o == 2 ? 0 : ways[n]);
            }
        }
        for (int n : new int[] {6, 127, 128, 129, 132, 255}) {
            Check.due("a byte of " + n, Check.sworn(Check.on(four), n, 0), 0);
        }
        StringBuilder ten = new StringBuilder(men(2));
        for (int p = 0; p < 10; p++) {
            ten.append(tree(p, "b a", 0, 9));
        }
        int[] of10 = {1, 10, 45, 120, 210, 252, 210, 120, 45, 10, 1, 0};
        for (int n = 0; n <= 11; n++) {
            PromiseTrees x = Check.on(ten.toString());
            Check.due("of ten " + n, Check.sworn(x, 0, n), of10[n]);
            Check.due("surely", x.surely(), n == 10 ? 1023 : n == 11 ? NONE : 0);
            Check.due("ask", x.ask(), n == 11 ? NONE : n == 0 || n == 10 ? 0 : 1);
        }
    }

    /** 27, 28: by the latest sworn() above 0; NONE ahead of any. */
    private static void surelyAndAsk() {
        String land = men(3) + tree(0, "a b", 0, 9) + tree(1, "b a", 0, 9) + tree(2, "b a", 0, 9) + tree(3, "c a", 0, 9)
            + tree(4, "c a", 0, 9);
        PromiseTrees x = Check.on(land);
        Check.sworn(x, 2, 0, 0);
        Check.due("one of 0 is none", x.surely() * 10 + x.ask(), -11);
        Check.due("of like ones the first", Check.sworn(x, 1, 1, 1) * 10 + x.ask(), 41);
        Check.due("surely", x.surely(), 1);
        Check.sworn(x, 2, 0, 0);
        Check.due("one of 0 leaves it", x.surely() * 10 + x.ask(), 11);
        Check.sworn(x, 1);
        Check.due("one of NONE leaves it", x.surely() * 10 + x.ask(), 11);
        Check.due("the third has most ways", Check.sworn(x, 0, 2, 1) * 10 + x.ask(), 22);
        Check.due("surely", x.surely(), 6);
        x.breaks(1);
        x.days(60);
        Check.due("of all that are told, whatever became of them", Check.sworn(x, 1, 2, 2), 1);
        Check.due("surely", x.surely(), 31);
    }

    /** 29: w (0 to 999); NONE: it does not STAND, no such ones. */
    private static void share() {
        for (int w : new int[] {-1, 1000, 1001, MIN, MAX}) {
            Whole.refused("share " + w, NONE, x -> x.share(w, 1));
        }
        for (int p : new int[] {-1, 6, 10, MIN, MAX, 0, 2, 5}) {
            Whole.refused("share to " + p, NONE, x -> x.share(5, p));
        }
        Whole.refused("a share", 0, x -> x.share(0, 1));
        // elm 24, fir 12, yew 12 tall: thirst 75, 87, 87 of 249
        int[][] due = {{0, 0, 0}, {0, 1, 0}, {0, 1, 1}, {1, 1, 1}, {301, 349, 349}};
        int[] waters = {0, 1, 2, 3, 999};
        PromiseTrees x = Whole.lived();
        for (int k = 0; k < waters.length; k++) {
            Check.due("elm of " + waters[k], x.share(waters[k], 1), due[k][0]);
            Check.due("fir of " + waters[k], x.share(waters[k], 3), due[k][1]);
            Check.due("yew of " + waters[k], x.share(waters[k], 4), due[k][2]);
        }
        Check.due("nothing is watered by it", x.promise(3, 4), 12);
        PromiseTrees y = Check.on(men(2) + tree(0, "a b", 5, 9));
        Check.due("all to one", y.share(999, 0), 999);
        Check.due("1 to one", y.share(1, 0), 1);
        Check.due("none to none", new PromiseTrees().share(1, 0), NONE);
    }

    /** 30, 31: ROUNDS till REST; the PRICE by the latest rounds(); NONE ahead of any. */
    private static void roundsAndPrice() {
        leavesWorld("rounds", PromiseTrees::rounds);
        PromiseTrees x = Check.on(men(3) + tree(0, "a b", 60, 9) + tree(1, "b a", 30, 9));
        Check.due("ahead of any", x.price(), NONE);
        x.breaks(1);
        Check.due("30 by 3", x.rounds() * 100 + x.price(), 110);
        x.breaks(0);
        Check.due("the latest", x.price(), 10);
        Check.due("90 by 3", x.rounds() * 100 + x.price(), 2130);
        x.undo();
        x.undo();
        Check.due("the latest", x.price(), 30);
        Check.due("0 by 3", x.rounds() * 100 + x.price(), 1100);
        Check.headland(x, "");
        Check.due("the latest", x.price(), 0);
        Check.due("0 by 0", x.rounds() * 100 + x.price(), 110);
    }

    /** 32: h (0 to 99); NONE: none by DAY 399, no such ones. */
    private static void when() {
        for (int h : new int[] {-1, 100, 101, MIN, MAX}) {
            Whole.refused("when of " + h, NONE, x -> x.when(1, h));
        }
        for (int p : new int[] {-1, 6, 10, MIN, MAX, 0, 2, 5}) {
            Whole.refused("when of tree " + p, NONE, x -> x.when(p, 0));
        }
        Whole.refused("when", 2, x -> x.when(1, 24));
        Whole.refused("when", 3, x -> x.when(1, 25));
        PromiseTrees x = Check.on(men(2) + tree(0, "a b", 0, 399));
        for (int h = 0; h <= 99; h++) {
            Check.due("how high: " + h, x.when(0, h), h);
        }
        PromiseTrees y = Check.on(men(2) + tree(0, "a b", 10, 5));
        Check.due("at the beginning of its last day", y.when(0, 15), 5);
        Check.due("not behind it", y.when(0, 16), NONE);
    }

    private static void whenLater() {
        PromiseTrees x = at(399, men(2) + tree(0, "a b", 0, 399) + tree(1, "b a", 0, 399) + "grows 0;");
        Check.due("on the last of days", x.when(0, 0), 399);
        Check.due("not higher", x.when(0, 1), NONE);
        x.water(0);
        Check.due("now", x.when(0, 5), 399);
        Check.due("no day more", x.when(0, 6), NONE);
        x.days(1);
        Check.due("all are over", x.when(0, 0), NONE);
        PromiseTrees y = at(390, men(2) + tree(0, "a b", 0, 399) + "grows 0;");
        y.free(0);
        Check.due("a stump", y.when(0, 0), NONE);
        PromiseTrees z = Check.on("land 8 8;man a 0 0;man b 7 0;promise p a b 1 0 40 2;promise q a b 3 0 0 9;");
        Check.due("ahead of the other's fall", z.when(1, 2), 2);
        Check.due("struck by it", z.when(1, 3), NONE);
    }

    /** 33: NONE: none by DAY 399. */
    private static void first() {
        Whole.refused("first", 30, PromiseTrees::first);
        for (int till : new int[] {0, 1, 398, 399}) {
            Check.due("first", Check.on(men(2) + tree(0, "a b", 0, till) + "grows 0;").first(), till);
        }
        PromiseTrees x = at(399, men(2) + tree(0, "a b", 0, 399));
        Check.due("on the last of days", x.first(), 399);
        x.keep(0);
        Check.due("none", x.first(), NONE);
        x.undo();
        x.days(1);
        Check.due("all are over", x.first(), NONE);
        PromiseTrees y = Check.on(men(2) + tree(0, "a b", 0, 5) + tree(1, "b a", 0, 3));
        Check.due("the first of two", y.first(), 3);
        y.days(3);
        Check.due("on this day", y.first(), 3);
        y.days(1);
        Check.due("the next", y.first(), 5);
        Check.due("none of none", new PromiseTrees().first(), NONE);
    }

    /** 34: n (1 to 60); NONE: not as told. */
    private static void broken() {
        for (int n : new int[] {0, -1, 61, MIN, MAX}) {
            Whole.refused("broken " + n, NONE, x -> x.broken(n));
        }
        Whole.refused("broken 1", 0, x -> x.broken(1));
        Whole.refused("broken 60, oak struck by elm among them", 27, x -> x.broken(60));
        PromiseTrees x = Check.on(men(2) + tree(0, "a b", 0, 0) + tree(1, "b a", 0, 59) + tree(2, "b a", 0, 60) + "grows 0;");
        Check.due("1", x.broken(1), 1);
        Check.due("59", x.broken(59), 1);
        Check.due("60", x.broken(60), 3);
        x.days(1);
        Check.due("from now on", x.broken(60), 6);
        PromiseTrees y = at(399, men(2) + tree(0, "a b", 0, 399));
        Check.due("one day is left", y.broken(60), 1);
        y.days(1);
        Check.due("none is left", y.broken(60), 0);
        Check.due("as told all the same", y.broken(61), NONE);
    }

    /** 35: n (1 to 60): how many went by; NONE: not as told, no PROMISES. */
    private static void drawn() {
        for (int n : new int[] {0, -1, 61, MIN, MAX}) {
            Whole.refused("drawn " + n, NONE, x -> x.drawn(n, 7));
        }
        for (int n : new int[] {1, 60}) {
            PromiseTrees x = Check.on(PAIR);
            Check.due("drawn", x.drawn(n, 7), n);
            Check.due("the day", x.now(0), n);
            Check.due("undone", x.undo(), 0);
        }
        Whole.unchanged("drawn without promises", NONE, x -> x.drawn(1, 7), () -> {
            PromiseTrees x = Check.on("man a 0 0;man b 1 0;storm 12;");
            x.days(3);
            return x;
        });
        Check.due("drawn on a new object", new PromiseTrees().drawn(60, 7), NONE);
    }

    private static void drawnLast() {
        for (int from = 339; from <= 341; from++) {
            PromiseTrees x = at(from, PAIR);
            Check.due("sixty from " + from, x.drawn(60, 9), Math.min(60, 400 - from));
            Check.due("the day", x.now(0), Math.min(400, from + 60));
        }
        Whole.unchanged("drawn when all are over", 0, x -> x.drawn(60, 9), () -> at(400, PAIR));
        Whole.unchanged("not as told when all are over", NONE, x -> x.drawn(61, 9), () -> at(400, PAIR));
    }

    /** 36: n (1 to 30); NONE: no such ones. */
    private static void odds() {
        for (int n : new int[] {0, -1, 31, MIN, MAX}) {
            Whole.refused("odds of " + n, NONE, x -> x.odds(1, n, 7));
        }
        for (int p : new int[] {-1, 6, 10, MIN, MAX}) {
            Whole.refused("odds of tree " + p, NONE, x -> x.odds(p, 5, 7));
        }
        Whole.refused("odds of what fell", 0, x -> x.odds(2, 30, 7));
        Whole.refused("odds of a stump", 0, x -> x.odds(5, 30, 7));
        Check.due("none at all", new PromiseTrees().odds(0, 1, 1), NONE);
    }

    private static void oddsBySeed() {
        for (int seed : new int[] {MIN, -15, 0, 77, MAX - 29, MAX - 10, MAX}) {
            PromiseTrees x = Whole.lived();
            for (int p : new int[] {0, 1, 3, 4}) {
                int kept = 0;
                for (int k = 0; k < 30; k++) {
                    x.drawn(20, seed + k);
                    kept += x.promise(p, 6) == 1 ? 1 : 0;
                    x.undo();
                }
                Check.due("thirty seeds from " + seed, x.odds(p, 30, seed), kept);
            }
            x.drawn(20, seed);
            int one = x.promise(1, 6) == 1 ? 1 : 0;
            x.undo();
            Check.due("one seed", x.odds(1, 1, seed), one);
        }
        PromiseTrees y = at(399, men(2) + tree(0, "a b", 0, 399) + "grows 0;storm 0;");
        int kept = 0;
        for (int k = 0; k < 30; k++) {
            y.drawn(1, k);
            kept += y.promise(0, 6) == 1 ? 1 : 0;
            y.undo();
        }
        Check.due("by the one day that is left", y.odds(0, 30, 0), kept);
        Check.due("some, not all", kept > 0 && kept < 30, true);
    }

    /** 37: lives 0 or 1; -1000: another lives (the tape stays). */
    private static void book() {
        for (int lives : new int[] {-1, 2, 3, MIN, MAX}) {
            Whole.refused("a book of lives " + lives, -1000, x -> x.book(lives));
        }
        PromiseTrees x = Whole.lived();
        x.end(0);
        String before = Whole.of(x).split("\ntold last")[0];
        Check.due("judged", Check.book(x, "elm kept;fir broken;day 60;", 0), NONE);
        Whole.same("all stays", Whole.of(x).split("\ntold last")[0], before);
        Check.due("as told", x.told(0) * 1000 + x.told(1) * 100 + x.told(2), 362);
        Check.due("nothing more can be undone", x.undo(), 4);
        Check.due("lived", Check.book(x, "elm kept;fir broken;day 60;", 1), NONE);
        Check.due("the day", x.now(0), 62);
        Check.due("undone at once", x.undo(), 4);
        Check.due("the day", x.now(0), 2);
        PromiseTrees y = new PromiseTrees();
        Check.due("an empty one", y.book(1), NONE);
        Check.due("told", y.told(0) + y.told(1) + y.told(2) + y.told(3), 0);
    }

    /** 37: -2 less the place of a FAULT. */
    private static void bookFault() {
        String[] texts = {"", "elm kept;elm", "elm kept;day 61;", "elm kept;bob kept;", "day 1;".repeat(40) + "day 1;"};
        int[] places = {0, 12, 13, 9, 240};
        String[] like = {"", ".", "day 0;", "zz kept;", "day 1;".repeat(41)};
        for (int kind = 1; kind <= 4; kind++) {
            int k = kind;
            for (int lives = 0; lives <= 1; lives++) {
                int l = lives;
                Whole.unchanged("a book with a fault of kind " + kind, -2 - places[kind], x -> Check.book(x, texts[k], l),
                    () -> {
                        PromiseTrees x = livedEmpty();
                        Check.book(x, like[k], 1);
                        Check.due("kind", x.fault(), k);
                        return x;
                    });
            }
        }
        Check.due("a fault at 0", Check.book(new PromiseTrees(), "x", 0), -2);
    }

    /** 37, 38: the LINE that is WRONG, why, how many are not, the DAY then and what FELL then. */
    private static void bookWrong() {
        String[] texts = {"oak kept;", "fir kept;", "yew kept;", "oak broken;", "ash freed;", "box watered;", "elm watered;"};
        int[] whys = {1, 2, 3, 11, 21, 31, 32};
        for (int k = 0; k < texts.length; k++) {
            for (int ahead = 0; ahead <= 1; ahead++) {
                PromiseTrees x = livedEmpty();
                String fine = "yew watered;".repeat(ahead);
                Check.due("the line", Check.book(x, fine + texts[k] + "day 60;", 1), ahead);
                Check.due("why", x.told(0), whys[k]);
                Check.due("how many are not", x.told(1), ahead);
                Check.due("the day then", x.told(2), 2);
                Check.due("what fell then", x.told(3), 4);
                Check.due("as far as it is not wrong", x.promise(4, 4), ahead == 0 ? 12 : 17);
                Check.due("no farther", x.now(0), 2);
            }
        }
        PromiseTrees y = at(340, PAIR);
        Check.due("as many days as are left", Check.book(y, "day 60;", 0), NONE);
        Check.due("the day then", y.told(2), 400);
        Check.due("then one more", Check.book(y, "day 60;day 1;", 0), 1);
        Check.due("why", y.told(0) * 1000 + y.told(2), 41400);
        y.days(1);
        Check.due("fewer are left", Check.book(y, "day 60;", 1), 0);
        Check.due("why", y.told(0) * 1000 + y.told(2), 41341);
        Check.due("none of them goes by", y.now(0), 341);
        PromiseTrees z = at(0, PAIR);
        Check.due("the fortieth is wrong", Check.book(z, "day 1;".repeat(38) + "p freed;p kept;", 1), 39);
        Check.due("39 are not", z.told(1), 39);
    }

    /** 38: NONE: another what, or ahead of any. */
    private static void told() {
        for (int what : new int[] {-1, 4, 5, MIN, MAX}) {
            Whole.refused("told " + what, NONE, x -> x.told(what));
        }
        PromiseTrees x = Check.on(PAIR);
        x.book(7);
        Check.due("ahead of any", x.told(0), NONE);
        Check.book(x, "p", 0);
        Check.due("one with a fault is none", x.told(0) + x.told(1) + x.told(2) + x.told(3), -4);
        Check.book(x, "p broken;day 1;p kept;", 0);
        int[] due = {1, 2, 1, 1};
        for (int what = 0; what < 4; what++) {
            Check.due("told " + what, x.told(what), due[what]);
        }
        Check.book(x, "p", 1);
        Check.book(x, "p", 2);
        x.end(0);
        x.breaks(1);
        x.days(3);
        for (int what = 0; what < 4; what++) {
            Check.due("as it was then: " + what, x.told(what), due[what]);
        }
        Check.book(x, "", 0);
        Check.due("the latest", x.told(0) + x.told(1), 0);
        Check.due("the day then, what fell then", x.told(2) * 10 + x.told(3), 32);
    }

    /** 39: how many ONES (each not, bracket and other one). */
    private static void sentence() {
        PromiseTrees x = Check.on(Check.WOOD);
        String[] texts = {"kept", "not kept", "(kept)", "not (kept)", "kept or fell", "not not (kept and (fell))", "tall<1"};
        int[] ones = {1, 2, 2, 3, 2, 6, 1};
        for (int k = 0; k < texts.length; k++) {
            Check.due("ones of " + texts[k], Check.sentence(x, texts[k]), ones[k]);
            Check.due("the tape is empty", x.count(7), 0);
        }
        leavesWorld("a sentence", y -> {
            y.end(0);
            int many = Check.sentence(y, "by ann");
            Check.put(y, "ab");
            return many;
        });
    }

    /** 39: -1 less the place of a FAULT: it stays. */
    private static void sentenceFault() {
        String[] texts = {"", "by", "", "by oak", "not ".repeat(8) + "kept"};
        int[] places = {0, 2, 0, 3, 32};
        for (int kind : new int[] {1, 3, 4}) {
            Whole.unchanged("a sentence with a fault of kind " + kind, -1 - places[kind],
                x -> Check.sentence(x, texts[kind]), () -> {
                    PromiseTrees x = livedEmpty();
                    Check.sentence(x, texts[kind]);
                    Check.due("kind", x.fault(), kind);
                    return x;
                });
        }
        PromiseTrees y = new PromiseTrees();
        Check.due("an empty text is none", y.sentence(), -1);
        Check.due("there is none", y.said(NONE), NONE);
    }

    /** 40: how many (k NONE), or the k-th; NONE: there is no SENTENCE, none such. */
    private static void said() {
        for (int k : new int[] {-2, 2, 6, 10, MIN, MAX}) {
            Whole.refused("said " + k, NONE, x -> x.said(k));
        }
        PromiseTrees x = Whole.lived();
        Check.due("how many", x.said(NONE), 2);
        Check.due("the first and the last", x.said(0) * 10 + x.said(1), 4);
        x.end(0);
        Check.sentence(x, "number > 998");
        Check.due("of none", x.said(NONE), 0);
        Check.due("none such", x.said(0), NONE);
        Check.sentence(x, "number < 999");
        Check.due("of all", x.said(NONE), 6);
        Check.due("the last", x.said(5), 5);
        Check.due("none such", x.said(6), NONE);
        Check.headland(x, "man a 0 0;");
        for (int k = -1; k <= 1; k++) {
            Check.due("no sentence", x.said(k), NONE);
        }
        Check.sentence(x, "not kept");
        Check.due("of no promises", x.said(NONE), 0);
        Check.due("none such", x.said(0), NONE);
    }

    /** 41, 42: place k (0, 1); false: no such one, or nothing is kept there. */
    private static void imageAndRestore() {
        for (int k : new int[] {-1, 2, 3, MIN, MAX}) {
            Whole.refused("image " + k, 0, x -> x.image(k) ? 1 : 0);
            Whole.refused("restore " + k, 0, x -> x.restore(k) ? 1 : 0);
        }
        Whole.refused("restore of nothing", 0, x -> x.restore(1) ? 1 : 0);
        for (int k = 0; k <= 1; k++) {
            PromiseTrees x = Whole.lived();
            String before = Whole.of(x);
            Check.due("image", x.image(k), true);
            Whole.same("an image changes nothing", Whole.of(x), before);
            Check.due("nor what can be undone", x.undo(), 4);
            Check.due("restore", x.restore(k), true);
            Check.due("the other place", x.restore(1 - k), k == 1);
        }
        PromiseTrees y = Check.on(PAIR);
        y.image(0);
        y.days(1);
        y.image(1);
        y.days(1);
        Check.due("place 1", y.restore(1), true);
        Check.due("day 1", y.now(0), 1);
        Check.due("place 0", y.restore(0), true);
        Check.due("day 0", y.now(0), 0);
        Check.due("place 1 again", y.restore(1), true);
        Check.due("day 1", y.now(0), 1);
        y.days(5);
        y.image(0);
        y.restore(1);
        y.restore(0);
        Check.due("the latest in a place", y.now(0), 6);
    }

    /** 42: as kept; the tape, and what other calls told last, stays; nothing can be undone. */
    private static void restoreLeaves() {
        PromiseTrees x = Whole.lived();
        x.image(1);
        String before = Whole.of(x);
        Check.put(x, "c");
        x.end(2);
        x.free(1);
        x.days(60);
        Check.due("restore", x.restore(1), true);
        Whole.same("all is as kept", Whole.of(x), before);
        Check.due("nothing can be undone", x.undo(), NONE);
        Check.due("watered on this day", x.water(1), 2);
        Check.due("kept on this day", x.keep(4), 3);
        Check.due("behind it acts can be undone", x.free(4) + x.undo(), 0);
        PromiseTrees y = Whole.lived();
        String last = Whole.toldLast(y).split("\nsaid")[0];
        Check.due("restore", y.restore(0), true);
        Check.due("the tape stays", y.count(7), 2);
        Check.due("what was told last stays", Whole.toldLast(y).split("\nsaid")[0].equals(last), true);
        Check.due("day 0, all stand", y.now(0) * 100 + y.now(1), 63);
        Check.due("not watered on this day", y.water(1), 0);
        Check.due("none kept on this day", y.keep(4), 0);
        PromiseTrees z = Check.on(PAIR);
        z.image(0);
        Check.sentence(z, "kept");
        z.restore(0);
        Check.due("no sentence, as kept", z.said(NONE), NONE);
        Check.headland(z, "");
        z.restore(0);
        Check.due("an image stays over a new headland", z.count(1), 2);
        Check.due("names as kept", Check.book(z, "q kept;", 0), NONE);
    }

    /** 43: NONE for another what. */
    private static void count() {
        for (int what : new int[] {-1, 8, 9, MIN, MAX}) {
            Whole.refused("count " + what, NONE, x -> x.count(what));
        }
        int[] due = {3, 6, 5, 4, 1, 2, 3, 2};
        PromiseTrees x = Whole.lived();
        for (int what = 0; what < 8; what++) {
            Check.due("count " + what, x.count(what), due[what]);
        }
    }
}
