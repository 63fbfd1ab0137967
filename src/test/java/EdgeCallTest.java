/** Promises 1 to 21: the last argument that is as told and the first that is not; what a refused call leaves. */
public final class EdgeCallTest {
    private static final int MIN = Integer.MIN_VALUE;
    private static final int MAX = Integer.MAX_VALUE;
    private static final int NONE = PromiseTrees.NONE;
    private static final String PAIR = "land 8 8;man a 0 0;man b 7 0;promise p a b 1 1 20 300;promise q b a 3 3 9 300;";

    public static void main(String[] args) {
        aheadOfAnyCall();
        feed();
        feedOrder();
        end();
        headland();
        headlandFault();
        fault();
        promise();
        man();
        cell();
        now();
        keep();
        breaks();
        free();
        water();
        days();
        undo();
        undoEight();
        undoEach();
        undoRefused();
        shades();
        light();
        fallsAndShuts();
        way();
        bars();
        Check.close();
    }

    /** 1: An empty HEADLAND, 4 by 4; an empty tape; and what is so ahead of any call. */
    private static void aheadOfAnyCall() {
        PromiseTrees x = new PromiseTrees();
        Check.due("NONE", NONE, -1);
        Check.due("bytes", x.count(7), 0);
        Check.due("land", x.count(2) * 10 + x.count(3), 44);
        Check.due("men, promises, clashes", x.count(0) + x.count(1) + x.count(4), 0);
        Check.due("grows, storm", x.count(5) * 10 + x.count(6), 11);
        Check.due("day", x.now(0), 0);
        Check.due("fault", x.fault(), 0);
        Check.due("chosen", x.chosen(), NONE);
        Check.due("ringAt", x.ringAt(0), NONE);
        Check.due("surely", x.surely(), NONE);
        Check.due("ask", x.ask(), NONE);
        Check.due("price", x.price(), NONE);
        for (int what = 0; what < 4; what++) {
            Check.due("told", x.told(what), NONE);
        }
        Check.due("said", x.said(NONE), NONE);
        Check.due("undo", x.undo(), NONE);
        Check.due("restore", x.restore(0) || x.restore(1), false);
        Check.due("corners", x.cell(0, 0) + x.cell(3, 0) + x.cell(0, 3) + x.cell(3, 3), 240);
        Check.due("outside", x.cell(4, 0) + x.cell(0, 4), -2);
        Check.due("days go by all the same", x.days(60), 60);
        Check.due("drawn ones do not", x.drawn(1, 1), NONE);
    }

    /** 2: NONE, and none come, if it would have more than 940. */
    private static void feed() {
        PromiseTrees x = new PromiseTrees();
        for (int k = 1; k <= 46; k++) {
            Check.due("feed", x.feed(k, k, k, k, k), 20 * k);
        }
        Check.due("end", x.end(919), true);
        Check.due("939", x.feed(1, 1, 1, 1, 1), 939);
        Check.due("end", x.end(920), true);
        Check.due("940", x.feed(1, 1, 1, 1, 1), 940);
        for (int bytes : new int[] {940, 939, 930, 921}) {
            Check.due("end", x.end(bytes), true);
            Check.due("more than 940", x.feed(1, 1, 1, 1, 1), NONE);
            Check.due("none come", x.count(7), bytes);
        }
        Check.due("end", x.end(920), true);
        Check.due("940 again", x.feed(1, 1, 1, 1, 1), 940);
        Whole.unchanged("feed of a full tape", NONE, z -> z.feed(1, 2, 3, 4, 5), () -> {
            PromiseTrees z = Whole.lived();
            while (z.feed(7, 7, 7, 7, 7) != NONE) {
                Check.due("not full yet", z.count(7) <= 940, true);
            }
            return z;
        });
    }

    /** 2: of each number the highest byte first, behind what the tape has. */
    private static void feedOrder() {
        PromiseTrees x = Check.on("land 8 8;man a 0 0;man b 1 0;man c 2 0;man d 3 0;man e 4 0;promise p a b 0 1 0 0;"
            + "promise q b a 1 1 0 0;promise r c a 2 1 0 0;promise s d a 3 1 0 0;promise t e a 4 1 0 0;");
        x.feed(0x01010101, 0x01000000, 0, 0, 0);
        x.end(5);
        Check.due("five bytes of 1", x.sworn(), 1);
        Check.due("each stands", x.surely(), 31);
        x.feed(0x01000100, 0x01000000, 0, 0, 0);
        x.end(5);
        Check.due("1, 0, 1, 0, 1", x.sworn(), 1);
        Check.due("p, r, t", x.surely(), 21);
        x.feed(0x67726f77, 0x7320373b, 0x73746f72, 0x6d203132, 0x3b202020);
        Check.due("twenty bytes in one", x.headland(), 2);
        Check.due("grows 7, storm 12", x.count(5) * 100 + x.count(6), 712);
        x.feed(0x67726f77, 0x73000000, 0, 0, 0);
        x.end(5);
        x.feed(0x20363b00, 0, 0, 0, 0);
        x.end(8);
        Check.due("behind what was left", x.headland(), 1);
        Check.due("grows 6", x.count(5), 6);
        PromiseTrees y = Check.on("man a 0 0;");
        for (int b : new int[] {1, 127, 128, 255}) {
            y.feed(b << 24, -1, -1, -1, -1);
            y.end(1);
            Check.due("a byte of " + b + " has no sign", y.sworn(), 0);
        }
    }

    /** 3: false, if it has not so many, or n is below 0. */
    private static void end() {
        for (int n : new int[] {3, 4, 940, 941, -1, -2, MIN, MAX}) {
            Whole.refused("end of " + n, 0, x -> x.end(n) ? 1 : 0);
        }
        PromiseTrees x = new PromiseTrees();
        Check.due("0 of none", x.end(0), true);
        Check.due("1 of none", x.end(1), false);
        x.feed(0, 0, 0, 0, 0);
        int[] fits = {20, 19, 1, 0};
        for (int n : fits) {
            Check.due(n + " and one more", x.end(x.count(7) + 1), false);
            Check.due("end", x.end(n), true);
            Check.due("has", x.count(7), n);
        }
        Check.due("what is cut is gone", x.end(1), false);
    }

    private static PromiseTrees livedWithFault(int kind) {
        PromiseTrees x = Whole.lived();
        x.end(0);
        String[] texts = {"", ".", "grows 10;", "grows 1;grows 1;", sevenMen()};
        Check.headland(x, texts[kind]);
        Check.due("kind", x.fault(), kind);
        return x;
    }

    private static String sevenMen() {
        StringBuilder text = new StringBuilder();
        for (int m = 0; m < 7; m++) {
            text.append("man ").append((char) ('a' + m)).append(' ').append(m % 4).append(' ').append(m / 4).append(';');
        }
        return text.toString();
    }

    /** 4: how many LINES; the tape is empty then. */
    private static void headland() {
        PromiseTrees x = new PromiseTrees();
        Check.due("of nothing", x.headland(), 0);
        Check.due("of one line", Check.headland(x, "storm 1;"), 1);
        Check.due("of many", Check.headland(x, Check.WOOD), 12);
        Check.due("the tape is empty", x.count(7), 0);
        Check.put(x, "(");
        Check.due("a fault at 0 is -1", x.headland(), -1);
        Check.due("the tape is empty", x.count(7), 0);
        Check.due("five promises", x.count(1), 5);
        Check.due("of nothing: that is a headland", x.headland(), 0);
        Check.due("no promises", x.count(1), 0);
    }

    /** 4: -1 less the place of a FAULT: it stays. */
    private static void headlandFault() {
        String[] texts = {"", "man a 0 0;man b 1 1;;", "man a 0 0;grows 10;", "man a 0 0;man a 1 1;", sevenMen()};
        int[] places = {0, 20, 16, 14, 60};
        for (int kind = 1; kind <= 4; kind++) {
            int k = kind;
            Whole.unchanged("a headland with a fault of kind " + kind, -1 - places[kind],
                x -> Check.headland(x, texts[k]), () -> livedWithFault(k));
        }
        String longOne = "grows 2;" + " ".repeat(893);
        Whole.unchanged("a headland that is too long", -901, x -> Check.headland(x, longOne), () -> livedWithFault(1));
    }

    /** 5: of the latest headland(), book() or sentence(); 0 without one and ahead of any. */
    private static void fault() {
        PromiseTrees x = new PromiseTrees();
        Check.due("ahead of any", x.fault(), 0);
        for (int kind = 1; kind <= 4; kind++) {
            PromiseTrees y = livedWithFault(kind);
            Check.due("of -1000", y.book(2) * 10 + y.fault(), -10000 + kind);
            Check.due("of -1000", y.book(-1) * 10 + y.fault(), -10000 + kind);
            Check.due("of a book without one", Check.book(y, "oak kept;", 0) * 10 + y.fault(), 0);
        }
        Check.book(x, "zz kept;", 1);
        Check.due("of a book", x.fault(), 3);
        Check.sentence(x, "not");
        Check.due("of a sentence", x.fault(), 1);
        Check.sentence(x, "kept");
        Check.due("of one without", x.fault(), 0);
        Check.sentence(x, "by zz");
        Check.headland(x, "");
        Check.due("of a headland without", x.fault(), 0);
        Check.headland(x, "grows 99;");
        x.sworn();
        x.days(1);
        x.undo();
        x.image(0);
        x.restore(0);
        Check.due("no other call tells one", x.fault(), 2);
    }

    /** 6: NoSuchElementException: no such ones. */
    private static void promise() {
        int[][] wrong = {{-1, 0}, {6, 0}, {10, 0}, {MIN, 0}, {MAX, 0}, {0, -1}, {0, 9}, {5, 9}, {0, MIN}, {0, MAX}, {-1, -1},
            {6, 9}};
        for (int[] w : wrong) {
            Whole.refused("promise " + w[0] + " " + w[1], Whole.THROWS, x -> Whole.promise(x, w[0], w[1]));
        }
        PromiseTrees x = Whole.lived();
        int[] oak = {0, 1, 1, 1, 24, 30, 1, 0, 8};
        int[] box = {1, 0, 3, 3, 5, 70, 3, 0, 0};
        for (int what = 0; what < 9; what++) {
            Check.due("the first: " + what, Whole.promise(x, 0, what), oak[what]);
            Check.due("the last: " + what, Whole.promise(x, 5, what), box[what]);
        }
        PromiseTrees y = Check.on("man a 0 0;man b 1 0;");
        Check.due("none at all", Whole.promise(y, 0, 0), Whole.THROWS);
        StringBuilder ten = new StringBuilder("man a 0 0;man b 1 0;");
        for (int p = 0; p < 10; p++) {
            ten.append("promise ").append((char) ('k' + p)).append(" a b ").append(p % 4).append(' ').append(1 + p / 4)
                .append(" 0 ").append(p).append(';');
        }
        PromiseTrees z = Check.on(ten.toString());
        Check.due("the tenth", Whole.promise(z, 9, 5), 9);
        Check.due("no eleventh", Whole.promise(z, 10, 5), Whole.THROWS);
        Check.headland(z, "man a 0 0;man b 1 0;promise k a b 3 3 0 7;");
        Check.due("one alone on a new headland", Whole.promise(z, 0, 5), 7);
        Check.due("no second", Whole.promise(z, 1, 5), Whole.THROWS);
    }

    /** 7: NoSuchElementException: no such ones. */
    private static void man() {
        int[][] wrong = {{-1, 0}, {3, 0}, {6, 0}, {MIN, 0}, {MAX, 0}, {0, -1}, {0, 6}, {2, 6}, {0, MIN}, {0, MAX}, {-1, -1},
            {3, 6}};
        for (int[] w : wrong) {
            Whole.refused("man " + w[0] + " " + w[1], Whole.THROWS, x -> Whole.man(x, w[0], w[1]));
        }
        PromiseTrees x = Whole.lived();
        int[] ann = {0, 0, 24, 0, 1, 0};
        int[] cid = {0, 3, 0, 10, 0, 1};
        for (int what = 0; what < 6; what++) {
            Check.due("the first: " + what, Whole.man(x, 0, what), ann[what]);
            Check.due("the last: " + what, Whole.man(x, 2, what), cid[what]);
        }
        PromiseTrees y = Check.on(sevenMen().substring(0, 60));
        Check.due("the sixth", Whole.man(y, 5, 0) * 10 + Whole.man(y, 5, 1), 11);
        Check.due("no seventh", Whole.man(y, 6, 0), Whole.THROWS);
        Check.due("none of a new object", Whole.man(new PromiseTrees(), 0, 0), Whole.THROWS);
    }

    /** 8: NONE: no such cell. */
    private static void cell() {
        int[][] sizes = {{2, 2}, {2, 8}, {8, 2}, {8, 8}, {5, 3}};
        for (int[] s : sizes) {
            PromiseTrees x = Check.on("land " + s[0] + " " + s[1] + ";");
            for (int cx = -1; cx <= 9; cx++) {
                for (int cy = -1; cy <= 9; cy++) {
                    boolean inside = cx >= 0 && cx < s[0] && cy >= 0 && cy < s[1];
                    Check.due("cell " + cx + " " + cy, x.cell(cx, cy), inside ? 60 : NONE);
                }
            }
        }
        int[][] wrong = {{-1, 0}, {0, -1}, {5, 0}, {0, 4}, {MIN, 0}, {0, MIN}, {MAX, MAX}};
        for (int[] w : wrong) {
            Whole.refused("cell " + w[0] + " " + w[1], NONE, x -> x.cell(w[0], w[1]));
        }
        PromiseTrees x = Check.on("land 4 2;man a 0 0;man b 3 0;promise p a b 1 0 30 9;promise q b a 2 0 30 9;"
            + "promise r b a 1 1 0 9;");
        int[] before = {40, 0, 1, 41};
        int[] stumps = {40, 20, 1, 41};
        int[] shut = {140, 120, 60, 41};
        for (int c = 0; c < 4; c++) {
            Check.due("as told", x.cell(c, 0), before[c]);
        }
        x.free(0);
        for (int c = 0; c < 4; c++) {
            Check.due("with a stump", x.cell(c, 0), stumps[c]);
        }
        x.breaks(1);
        for (int c = 0; c < 4; c++) {
            Check.due("with a trunk", x.cell(c, 0), shut[c]);
        }
    }

    /** 9: NONE for another what. */
    private static void now() {
        for (int what : new int[] {-1, 8, 9, MIN, MAX}) {
            Whole.refused("now " + what, NONE, x -> x.now(what));
        }
        int[] due = {2, 26, 1, 4, 32, 2, 72, 34};
        PromiseTrees x = Whole.lived();
        for (int what = 0; what < 8; what++) {
            Check.due("now " + what, x.now(what), due[what]);
        }
    }

    /** 10: 0, or why not; NONE: no such one. */
    private static void keep() {
        for (int p : new int[] {-1, 6, 10, MIN, MAX}) {
            Whole.refused("keep " + p, NONE, x -> x.keep(p));
        }
        Whole.refused("keep a kept one", 1, x -> x.keep(0));
        Whole.refused("keep what fell", 1, x -> x.keep(2));
        Whole.refused("keep a stump", 1, x -> x.keep(5));
        Whole.refused("keep one that clashes with a kept one", 2, x -> x.keep(3));
        Whole.refused("keep his second of a day", 3, x -> x.keep(4));
        PromiseTrees x = Whole.lived();
        Check.due("keep", x.keep(1), 0);
        Check.due("kept", x.now(2) * 100 + x.now(1), 324);
        Check.due("the last of them", Check.on(PAIR).keep(1), 0);
        Check.due("none at all", new PromiseTrees().keep(0), NONE);
    }

    /** 11: 0, or why not; NONE: no such one. */
    private static void breaks() {
        for (int p : new int[] {-1, 6, 10, MIN, MAX}) {
            Whole.refused("breaks " + p, NONE, x -> x.breaks(p));
        }
        Whole.refused("breaks a kept one", 1, x -> x.breaks(0));
        Whole.refused("breaks what fell", 1, x -> x.breaks(2));
        Whole.refused("breaks a stump", 1, x -> x.breaks(5));
        PromiseTrees x = Whole.lived();
        Check.due("breaks", x.breaks(4), 0);
        Check.due("fell", x.now(3) * 100 + x.now(1), 2010);
        Check.due("the last of them", Check.on(PAIR).breaks(1), 0);
        Check.due("none at all", new PromiseTrees().breaks(0), NONE);
    }

    /** 12: 0, or why not; NONE: no such one. */
    private static void free() {
        for (int p : new int[] {-1, 6, 10, MIN, MAX}) {
            Whole.refused("free " + p, NONE, x -> x.free(p));
        }
        Whole.refused("free a kept one", 1, x -> x.free(0));
        Whole.refused("free what fell", 1, x -> x.free(2));
        Whole.refused("free a stump", 1, x -> x.free(5));
        PromiseTrees x = Whole.lived();
        Check.due("free", x.free(4), 0);
        Check.due("a stump", x.now(4) * 100 + x.now(1), 4810);
        Check.due("as tall as it was", x.promise(4, 4), 12);
        Check.due("the last of them", Check.on(PAIR).free(1), 0);
        Check.due("none at all", new PromiseTrees().free(0), NONE);
    }

    /** 13: 0, or why not; NONE: no such one. */
    private static void water() {
        for (int p : new int[] {-1, 6, 10, MIN, MAX}) {
            Whole.refused("water " + p, NONE, x -> x.water(p));
        }
        Whole.refused("water a kept one", 1, x -> x.water(0));
        Whole.refused("water what fell", 1, x -> x.water(2));
        Whole.refused("water a stump", 1, x -> x.water(5));
        Whole.refused("water twice a day", 2, x -> x.water(1));
        PromiseTrees x = Whole.lived();
        Check.due("water", x.water(4), 0);
        Check.due("five more", x.promise(4, 4), 17);
        x.keep(1);
        Check.due("1 ahead of 2", x.water(1), 1);
        Check.due("the last of them", Check.on(PAIR).water(1), 0);
        Check.due("none at all", new PromiseTrees().water(0), NONE);
        PromiseTrees y = Check.on(PAIR);
        y.water(0);
        y.days(1);
        Check.due("on the next day", y.water(0), 0);
        y.undo();
        y.undo();
        Check.due("on the day again, behind an undoing of the day", y.water(0), 2);
    }

    /** 14: n (1 to 60): how many did; NONE: not as told. */
    private static void days() {
        for (int n : new int[] {0, -1, 61, MIN, MAX}) {
            Whole.refused("days " + n, NONE, x -> x.days(n));
        }
        for (int n : new int[] {1, 2, 59, 60}) {
            PromiseTrees x = Check.on(PAIR);
            Check.due("days", x.days(n), n);
            Check.due("the day", x.now(0), n);
        }
        for (int from = 339; from <= 341; from++) {
            PromiseTrees x = at(from);
            Check.due("sixty from " + from, x.days(60), Math.min(60, 400 - from));
            Check.due("the day", x.now(0), Math.min(400, from + 60));
        }
        Whole.unchanged("days when all are over", 0, x -> x.days(60), () -> at(400));
        Whole.unchanged("one when all are over", 0, x -> x.days(1), () -> at(400));
        Whole.unchanged("no days when all are over", NONE, x -> x.days(0), () -> at(400));
        Whole.same("days one by one are as many at once", Whole.of(oneByOne()), Whole.of(atOnce()));
    }

    private static PromiseTrees at(int day) {
        PromiseTrees x = Check.on(PAIR);
        for (int left = day; left > 0; left -= 60) {
            x.days(Math.min(60, left));
        }
        Check.due("the day", x.now(0), day);
        return x;
    }

    private static PromiseTrees oneByOne() {
        PromiseTrees x = Check.on(Check.WOOD);
        for (int k = 0; k < 25; k++) {
            x.days(1);
        }
        return x;
    }

    private static PromiseTrees atOnce() {
        PromiseTrees x = Check.on(Check.WOOD);
        x.days(25);
        return x;
    }

    /** 15: NONE: none is. */
    private static void undo() {
        Whole.unchanged("undo of nothing", NONE, PromiseTrees::undo, () -> Check.on(PAIR));
        Whole.unchanged("undo behind a restoring", NONE, PromiseTrees::undo, () -> {
            PromiseTrees x = Whole.lived();
            x.restore(0);
            return x;
        });
        Whole.unchanged("undo behind a new headland", NONE, PromiseTrees::undo, () -> {
            PromiseTrees x = Whole.lived();
            x.end(0);
            Check.headland(x, PAIR);
            return x;
        });
        PromiseTrees x = Whole.lived();
        for (int left = 4; left >= 0; left--) {
            Check.due("how many more", x.undo(), left);
        }
        Check.due("none more", x.undo(), NONE);
        Check.due("as told", x.now(0) * 100 + x.now(1), 63);
    }

    /** 15: 8 at most are kept. */
    private static void undoEight() {
        for (int acts = 0; acts <= 20; acts++) {
            PromiseTrees x = Check.on(PAIR);
            for (int k = 0; k < acts; k++) {
                Check.due("a day", x.days(1), 1);
            }
            int can = Math.min(8, acts);
            for (int left = can - 1; left >= 0; left--) {
                Check.due("undo", x.undo(), left);
                Check.due("the day", x.now(0), acts - can + left);
            }
            Check.due("none is", x.undo(), NONE);
            Check.due("the day stays", x.now(0), acts - can);
        }
        PromiseTrees y = Check.on(PAIR);
        for (int k = 0; k < 8; k++) {
            y.days(1);
        }
        Check.due("seven more", y.undo(), 7);
        y.days(2);
        y.days(3);
        int[] days = {9, 7, 6, 5, 4, 3, 2, 1};
        for (int k = 0; k < 8; k++) {
            Check.due("undo goes on", y.undo(), 7 - k);
            Check.due("day", y.now(0), days[k]);
        }
        Check.due("the ninth is not kept", y.undo(), NONE);
    }

    /** 15: each sort of act that can be undone, as it was ahead of it. */
    private static void undoEach() {
        undone("keep", x -> x.keep(1));
        undone("breaks", x -> x.breaks(4));
        undone("free", x -> x.free(4));
        undone("water", x -> x.water(4));
        undone("days", x -> x.days(60));
        undone("drawn", x -> x.drawn(60, 12345));
        undone("a book", x -> {
            x.end(0);
            Check.put(x, "elm kept;fir freed;day 3;yew broken;");
            int wrong = x.book(1);
            x.feed(('a' << 24) | ('b' << 16), 0, 0, 0, 0);
            x.end(2);
            return wrong;
        });
    }

    private static void undone(String what, Whole.Call act) {
        PromiseTrees x = Whole.lived();
        act.on(x);
        Check.due("something is done: " + what, x.now(1) != 26 || x.now(0) != 2 || x.promise(4, 4) != 12, true);
        Check.due("undone: " + what, x.undo(), 5);
        Check.due("as it was", Whole.of(x).split("\ntold last")[0].equals(Whole.of(Whole.lived()).split("\ntold last")[0]),
            true);
        Check.due("and again: " + what, act.on(x) >= -1, true);
        Check.due("undone again: " + what, x.undo(), 5);
    }

    /** 15: what was not done is not undone. */
    private static void undoRefused() {
        Whole.Call[] none = {x -> x.keep(0), x -> x.keep(3), x -> x.keep(4), x -> x.breaks(0), x -> x.free(2), x -> x.water(1),
            x -> x.days(0), x -> x.days(61), x -> x.drawn(0, 1), x -> x.drawn(61, 1), x -> x.keep(-1), x -> x.falls(1),
            x -> x.shuts(1), x -> x.bars(0, 1), x -> x.odds(1, 30, 1), x -> x.when(1, 99), x -> x.broken(60), x -> x.first(),
            x -> x.book(2)};
        for (int k = 0; k < none.length; k++) {
            PromiseTrees x = Whole.lived();
            none[k].on(x);
            Check.due("undo behind what is not undone: " + k, x.undo(), 4);
            Check.due("the water", x.water(1), 0);
        }
        PromiseTrees x = Whole.lived();
        x.end(0);
        Check.book(x, "elm kept;", 0);
        Check.due("a book that was judged", x.undo(), 4);
        Check.book(x, "elm kept;elm", 1);
        Check.due("a book with a fault", x.undo(), 3);
        PromiseTrees y = at(400);
        y.days(5);
        y.drawn(5, 5);
        Check.due("days that did not go by", y.undo(), 6);
        Check.due("the forty that did", y.now(0), 360);
    }

    /** 16: 0: it is not upright; NONE: no such one. */
    private static void shades() {
        for (int p : new int[] {-1, 6, 10, MIN, MAX}) {
            Whole.refused("shades " + p, NONE, x -> x.shades(p));
        }
        PromiseTrees x = Check.on("land 3 4;man a 0 0;man b 2 0;promise p a b 1 3 60 99;promise q b a 1 2 30 99;"
            + "promise r b a 1 1 5 99;promise s b a 1 0 0 99;");
        int[] due = {14, 12, 8, 0};
        for (int p = 0; p < 4; p++) {
            Check.due("shades " + p, x.shades(p), due[p]);
        }
        x.free(1);
        Check.due("a stump", x.shades(1), 0);
        x.breaks(2);
        Check.due("what fell", x.shades(2), 0);
        Check.due("none such", x.shades(4), NONE);
        Check.due("none at all", new PromiseTrees().shades(0), NONE);
    }

    /** 17: how many cells (k NONE), or the k-th, from 0; NONE: none such. */
    private static void light() {
        for (int k : new int[] {-2, 12, 13, 64, MIN, MAX}) {
            Whole.refused("light " + k, NONE, x -> x.light(k));
        }
        PromiseTrees x = Whole.lived();
        int many = x.light(NONE);
        Check.due("how many", many > 0 && many <= 12, true);
        int before = -1;
        for (int k = 0; k < many; k++) {
            Check.due("row by row", x.light(k) > before, true);
            before = x.light(k);
            Check.due("a cell with nothing", x.cell(before % 10, before / 10), 60);
        }
        Check.due("no more", x.light(many), NONE);
        PromiseTrees y = Check.on("land 8 8;");
        Check.due("all", y.light(NONE), 64);
        Check.due("the first", y.light(0), 0);
        Check.due("the eighth", y.light(7), 7);
        Check.due("the ninth", y.light(8), 10);
        Check.due("the last", y.light(63), 77);
        Check.due("no more", y.light(64), NONE);
        PromiseTrees z = Check.on("land 2 2;");
        Check.due("the least", z.light(NONE) * 100 + z.light(3), 411);
        Check.due("no more", z.light(4), NONE);
    }

    /** 18, 19: NONE: it does not STAND, no such one. */
    private static void fallsAndShuts() {
        for (int p : new int[] {-1, 6, 10, MIN, MAX, 0, 2, 5}) {
            Whole.refused("falls " + p, NONE, x -> x.falls(p));
            Whole.refused("shuts " + p, NONE, x -> x.shuts(p));
        }
        Whole.refused("falls of one that stands", 2, x -> x.falls(1));
        Whole.refused("shuts of one that stands", 3, x -> x.shuts(1));
        for (int p : new int[] {1, 3, 4}) {
            PromiseTrees x = Whole.lived();
            int falls = x.falls(p);
            int shuts = x.shuts(p);
            int fell = x.now(3);
            int shut = x.now(5);
            x.breaks(p);
            Check.due("what falls is what fell", fell + falls, x.now(3));
            Check.due("what is shut was shut", shut + shuts, x.now(5));
        }
        PromiseTrees y = Check.on("land 8 2;man a 0 0;man b 7 0;promise p a b 1 0 0 9;promise q b a 3 0 0 9;");
        Check.due("p's", y.falls(0) * 10 + y.shuts(0), 11);
        y.breaks(0);
        Check.due("a cell that is shut: no cell more", y.falls(1) * 10 + y.shuts(1), 20);
    }

    /** 20: NONE: none, no such ones (to himself: 0). */
    private static void way() {
        int[][] wrong = {{-1, 0}, {0, -1}, {3, 0}, {0, 3}, {-1, -1}, {3, 3}, {6, 6}, {MIN, 0}, {0, MAX}};
        for (int[] w : wrong) {
            Whole.refused("way " + w[0] + " " + w[1], NONE, x -> x.way(w[0], w[1]));
        }
        PromiseTrees x = Whole.lived();
        for (int m = 0; m < 3; m++) {
            Check.due("to himself", x.way(m, m), 0);
            for (int o = 0; o < 3; o++) {
                Check.due("there as back", x.way(m, o), x.way(o, m));
            }
        }
        PromiseTrees y = Check.on("land 2 2;man a 0 0;man b 1 1;promise p a b 1 0 0 9;promise q a b 0 1 0 9;");
        Check.due("none", y.way(0, 1), NONE);
        Check.due("to himself all the same", y.way(1, 1), 0);
        Check.due("none at all", new PromiseTrees().way(0, 0), NONE);
    }

    /** 21: NONE: none is open, no such ones, alike. */
    private static void bars() {
        int[][] wrong = {{0, 0}, {2, 2}, {-1, 0}, {0, -1}, {3, 0}, {0, 3}, {-1, -1}, {6, 6}, {MIN, 0}, {0, MAX}};
        for (int[] w : wrong) {
            Whole.refused("bars " + w[0] + " " + w[1], NONE, x -> x.bars(w[0], w[1]));
        }
        PromiseTrees x = Check.on("land 4 2;man a 0 0;man b 3 0;promise p a b 0 1 30 9;promise q b a 2 1 0 9;");
        Check.due("open by row 0 alone: p and q bar nothing", x.way(0, 1) * 10 + x.bars(0, 1), 30);
        PromiseTrees y = Check.on("land 4 2;man a 0 0;man b 3 0;man c 3 1;promise p a b 1 0 5 9;promise q c b 2 1 0 9;");
        Check.due("none is open", y.way(0, 1) * 10 + y.bars(0, 1), -11);
        PromiseTrees z = Check.on("land 4 2;man a 0 0;man b 3 0;man c 3 1;promise p a b 1 0 5 9;promise q a c 1 1 9 9;");
        z.free(0);
        Check.due("a stump is open", z.way(0, 1), 3);
        Check.due("q lies in the other row", z.bars(0, 1), 0);
        String gate = "land 3 2;man a 0 0;man b 2 0;man c 1 0;promise p a c 1 1 0 9;promise q a b 0 1 0 9;";
        PromiseTrees w = Check.on(gate);
        Check.due("over c's door, which p would shut", w.way(0, 1) * 10 + w.bars(0, 1), 21);
        Check.due("to c's door nothing does", w.way(0, 2) * 10 + w.bars(0, 2), 10);
        w.keep(0);
        Check.due("p does not stand", w.bars(0, 1), 0);
        PromiseTrees u = Check.on("land 3 3;man a 0 0;man b 2 0;man c 1 0;promise p a c 1 1 0 9;promise q a b 0 1 0 9;"
            + "promise r a c 1 2 10 9;");
        Check.due("p and r would, q would not", u.bars(0, 1), 5);
        PromiseTrees v = Check.on(gate);
        v.breaks(0);
        Check.due("it is shut now", v.bars(0, 1), NONE);
        Check.due("none of a new object", new PromiseTrees().bars(0, 1), NONE);
    }
}
