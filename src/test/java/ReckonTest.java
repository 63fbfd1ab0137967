/** Promises 22 to 31: the most words, rings, what is sworn, water shared, the price of firewood. */
public final class ReckonTest {
    private static final String MEN = "land 8 8;man a 0 0;man b 1 0;man c 2 0;man d 3 0;man e 4 0;man f 5 0;";

    public static void main(String[] args) {
        most();
        mostInTime();
        rings();
        ringsOfLikeLength();
        sworn();
        shares();
        prices();
        Check.close();
    }

    private static void most() {
        PromiseTrees x = Check.on(Check.WOOD);
        Check.due("ahead of any", x.chosen(), -1);
        Check.due("most", x.most(), 4);
        Check.due("of like ones the least", x.chosen(), 23);
        x.keep(0);
        Check.due("chosen stays till the next", x.chosen(), 23);
        Check.due("none that clashes with a kept one, none that is kept", x.most(), 3);
        Check.due("chosen", x.chosen(), 22);
        x.free(1);
        x.breaks(2);
        Check.due("what stands alone", x.most(), 1);
        Check.due("chosen", x.chosen(), 16);
        x.free(4);
        x.free(3);
        Check.due("none", x.most(), 0);
        Check.due("chosen of none", x.chosen(), 0);
        Check.headland(x, "");
        Check.due("it stays over a headland", x.chosen(), 0);
        PromiseTrees y = Check.on(MEN + "promise k a b 0 1 0 9;promise l a b 1 1 0 9;promise m a b 2 1 0 9;"
            + "clash k l;clash k m;");
        y.most();
        Check.due("more, though its bits are more", y.chosen(), 6);
    }

    private static void mostInTime() {
        PromiseTrees x = Check.on(MEN + "promise k a b 0 1 0 1;promise l a b 1 1 0 1;promise m a b 2 1 0 1;"
            + "promise n b a 3 1 0 0;promise o b a 4 1 0 0;");
        Check.due("two days for a, one for b", x.most(), 3);
        Check.due("the least", x.chosen(), 1 + 2 + 8);
        x.keep(2);
        Check.due("he kept one on this day", x.most(), 2);
        Check.due("the least then", x.chosen(), 1 + 8);
        x.undo();
        x.keep(4);
        Check.due("b has no day left", x.most(), 2);
        PromiseTrees y = Check.on(MEN + "promise k a b 0 1 0 2;promise l a b 1 1 0 0;promise m a b 2 1 0 1;");
        Check.due("the most pressing first", y.most(), 3);
        y.keep(0);
        Check.due("on a lost day", y.most(), 1);
        Check.due("the later one", y.chosen(), 4);
        PromiseTrees z = Check.on(MEN + "promise k a b 0 1 0 399;promise l b a 1 1 0 5;grows 0;");
        z.days(5);
        Check.due("on its last day", z.most(), 2);
        z.days(1);
        Check.due("behind it", z.most(), 1);
    }

    private static void rings() {
        PromiseTrees x = Check.on(Check.WOOD);
        Check.due("ahead of any", x.ringAt(0), -1);
        Check.due("ring", x.ring(), 2);
        Check.due("0", x.ringAt(0), 0);
        Check.due("1", x.ringAt(1), 4);
        Check.due("2", x.ringAt(2), -1);
        Check.due("-1", x.ringAt(-1), -1);
        Check.due("MAX", x.ringAt(Integer.MAX_VALUE), -1);
        x.free(4);
        Check.due("the next one", x.ring(), 2);
        Check.due("its words", x.ringAt(0) * 10 + x.ringAt(1), 23);
        x.keep(3);
        Check.due("of three", x.ring(), 3);
        Check.due("its words", x.ringAt(0) * 100 + x.ringAt(1) * 10 + x.ringAt(2), 12);
        x.breaks(2);
        Check.due("none", x.ring(), -1);
        Check.due("the latest that was not none", x.ringAt(2), 2);
        Check.headland(x, "");
        Check.due("it stays over a headland", x.ringAt(2), 2);
    }

    private static void ringsOfLikeLength() {
        PromiseTrees x = Check.on(MEN + "promise k b c 0 1 0 9;promise l c a 1 1 0 9;promise m a b 2 1 0 9;"
            + "promise n a b 3 1 0 9;");
        Check.due("three", x.ring(), 3);
        Check.due("it begins with the least", x.ringAt(0), 0);
        Check.due("then", x.ringAt(1), 1);
        Check.due("of like ones the least", x.ringAt(2), 2);
        PromiseTrees y = Check.on(MEN + "promise k a b 0 1 0 9;promise l b c 1 1 0 9;promise m c d 2 1 0 9;"
            + "promise n d e 3 1 0 9;promise o e f 4 1 0 9;promise p f a 5 1 0 9;");
        Check.due("six", y.ring(), 6);
        for (int k = 0; k < 6; k++) {
            Check.due("word " + k, y.ringAt(k), k);
        }
        PromiseTrees z = Check.on(MEN + "promise k a b 0 1 0 9;promise l b c 1 1 0 9;promise m c a 2 1 0 9;"
            + "promise n d e 3 1 0 9;promise o e d 4 1 0 9;");
        Check.due("the shorter one, though later", z.ring(), 2);
        Check.due("its first", z.ringAt(0), 3);
        Check.due("of the longer one nothing is left", z.ringAt(2), -1);
    }

    private static void sworn() {
        PromiseTrees x = Check.on(Check.WOOD);
        Check.due("surely ahead of any", x.surely(), -1);
        Check.due("ask ahead of any", x.ask(), -1);
        Check.due("too few bytes", Check.sworn(x, 1, 1), -1);
        Check.due("the tape is empty", x.count(7), 0);
        Check.due("too many", Check.sworn(x, 1, 1, 1, 1), -1);
        Check.due("none", x.sworn(), -1);
        Check.due("a byte of 255", Check.sworn(x, 255, 1, 1), 0);
        Check.due("surely ahead of one above 0", x.surely(), -1);
        Check.due("sets", Check.sworn(x, 2, 1, 0), 2);
        Check.due("in each", x.surely(), 9);
        Check.due("whom to ask", x.ask(), 1);
        Check.due("no set", Check.sworn(x, 0, 0, 2), 0);
        Check.due("surely stays", x.surely(), 9);
        Check.due("ask stays", x.ask(), 1);
        Check.due("none stand", Check.sworn(x, 0, 0, 0), 1);
        Check.due("none in each", x.surely(), 0);
        Check.due("of like ones the first", x.ask(), 0);
        x.keep(0);
        x.free(3);
        Check.due("of all that are told", Check.sworn(x, 1, 1, 1), 4);
        Check.due("cid's surely", x.surely(), 4);
        PromiseTrees y = Check.on(MEN + "promise k a b 0 1 0 9;promise l a b 1 1 0 9;promise m b a 2 1 0 9;"
            + "promise n b a 3 1 0 9;promise o b a 4 1 0 9;promise p b a 5 1 0 9;promise q c a 6 1 0 9;"
            + "promise r c a 7 1 0 9;promise s c a 0 2 0 9;promise t c a 1 2 0 9;");
        Check.due("2 by 6 by 6", Check.sworn(y, 1, 2, 2, 0, 0, 0), 72);
        Check.due("most ways, the first", y.ask(), 1);
        Check.due("none surely", y.surely(), 0);
        Check.due("no men, no bytes", new PromiseTrees().sworn(), -1);
    }

    private static void shares() {
        // thirst 79, 84, 69, 91, 59: 382 in all
        PromiseTrees x = Check.on(Check.WOOD);
        int[] of100 = {21, 22, 18, 24, 15};
        int[] of1 = {0, 0, 0, 1, 0};
        for (int p = 0; p < 5; p++) {
            Check.due("of 100 to " + p, x.share(100, p), of100[p]);
            Check.due("of 1 to " + p, x.share(1, p), of1[p]);
            Check.due("of 0 to " + p, x.share(0, p), 0);
        }
        int sum = 0;
        for (int p = 0; p < 5; p++) {
            sum += x.share(999, p);
        }
        Check.due("999 in all", sum, 999);
        for (int w : new int[] {-1, 1000, Integer.MAX_VALUE, Integer.MIN_VALUE}) {
            Check.due("water " + w, x.share(w, 0), -1);
        }
        for (int p : new int[] {-1, 5, Integer.MAX_VALUE}) {
            Check.due("to none", x.share(5, p), -1);
        }
        x.keep(0);
        x.breaks(1);
        x.free(2);
        for (int p = 0; p < 3; p++) {
            Check.due("it does not stand", x.share(5, p), -1);
        }
        // thirst 91, 59: 150
        Check.due("among those that stand", x.share(10, 3), 6);
        Check.due("among those that stand", x.share(10, 4), 4);
        PromiseTrees y = Check.on("man a 0 0;man b 3 3;promise p a b 1 0 50 99;promise q b a 2 0 50 99;"
            + "promise r a b 3 0 50 99;grows 9;");
        Check.due("of like ones the first", y.share(4, 0), 2);
        Check.due("the second", y.share(4, 1), 1);
        Check.due("both of two", y.share(5, 1), 2);
        Check.due("not the third", y.share(5, 2), 1);
        y.days(10);
        Check.due("no thirst", y.share(4, 0), 0);
    }

    private static void prices() {
        PromiseTrees x = Check.on(Check.WOOD);
        Check.due("ahead of any", x.price(), -1);
        Check.due("no wood", x.rounds(), 11);
        Check.due("no price", x.price(), 0);
        x.breaks(4);
        Check.due("the price of the latest", x.price(), 0);
        Check.due("75 by 3", x.rounds(), 16);
        Check.due("25", x.price(), 25);
        x.undo();
        x.breaks(2);
        Check.due("30 by 3: rest at once", x.rounds(), 1);
        Check.due("10", x.price(), 10);
        x.undo();
        x.breaks(1);
        Check.due("15 by 3", x.rounds(), 6);
        Check.due("5", x.price(), 5);
        x.undo();
        x.breaks(3);
        Check.due("8 by 3: no rest", x.rounds(), 60);
        Check.due("to and fro: 2, 3, .. from round 8 on", x.price(), 2);
        PromiseTrees y = new PromiseTrees();
        Check.due("no men, no wood", y.rounds(), 1);
        Check.due("10 stays", y.price(), 10);
        PromiseTrees z = Check.on("man a 0 0;man b 3 3;promise p a b 1 0 60 3;promise q b a 2 0 60 3;promise r b a 3 0 60 3;"
            + "grows 9;");
        z.days(4);
        Check.due("wood of 288", z.now(7), 288);
        Check.due("sixty rounds at most", z.rounds(), 60);
        Check.due("70 by then", z.price(), 70);
    }
}
