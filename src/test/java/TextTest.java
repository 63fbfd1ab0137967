/** Promises 2 to 5: the tape, tokens and the faults of headlands. */
public final class TextTest {
    private static final String TWO = "man m 0 0;man n 1 0;";
    private static final String FOUR = TWO + "promise p m n 1 1 1 1;promise q n m 2 1 1 1;";

    public static void main(String[] args) {
        feeding();
        ending();
        tokens();
        lines();
        numbers();
        names();
        cells();
        onceOnly();
        tooMany();
        tooLong();
        faultOfTheLatest();
        Check.close();
    }

    private static void feeding() {
        PromiseTrees x = new PromiseTrees();
        for (int k = 1; k <= 47; k++) {
            Check.due("feed " + k, x.feed(0, 0, 0, 0, 0), 20 * k);
        }
        Check.due("feed over 940", x.feed(0, 0, 0, 0, 0), -1);
        Check.due("none come", x.count(7), 940);
        Check.due("end of one", x.end(939), true);
        Check.due("feed over 940 by less", x.feed(0, 0, 0, 0, 0), -1);
        Check.due("none come", x.count(7), 939);
        x.end(0);
        x.feed(('d' << 24) | ('a' << 16) | ('y' << 8) | ' ', ('3' << 24) | (';' << 16), 0, 0, 0);
        x.end(6);
        Check.due("the highest byte comes first", x.book(1), -1);
        Check.due("the day then", x.now(0), 3);
    }

    private static void ending() {
        PromiseTrees x = new PromiseTrees();
        Check.due("end(0) of nothing", x.end(0), true);
        Check.due("end(1) of nothing", x.end(1), false);
        Check.due("end(-1)", x.end(-1), false);
        x.feed(0, 0, 0, 0, 0);
        Check.due("end(21) of 20", x.end(21), false);
        Check.due("it stays", x.count(7), 20);
        Check.due("end(20) of 20", x.end(20), true);
        Check.due("end(7)", x.end(7), true);
        Check.due("seven", x.count(7), 7);
    }

    private static void tokens() {
        Check.due("no blanks needed", Check.headland(new PromiseTrees(), "land 5 5;grows 2;storm 3;"), 3);
        Check.due("blanks all over", Check.headland(new PromiseTrees(), "\n  grows\n2\n;\n storm 3 ; "), 2);
        Check.due("signs end words", Check.headland(new PromiseTrees(), "grows 002;"), 1);
        Check.due("nothing at all", Check.headland(new PromiseTrees(), ""), 0);
        Check.due("blanks alone", Check.headland(new PromiseTrees(), " \n "), 0);
        Check.headlandFault("grows2;", 1, 0);
        Check.headlandFault("man m1 0 0;", 1, 4);
        Check.headlandFault("man 1m 0 0;", 1, 4);
        Check.headlandFault("man abcdefgh 0 0;", 1, 4);
        Check.headlandFault("grows 0001;", 1, 6);
        Check.headlandFault("grows 1\t;", 1, 7);
        Check.headlandFault("grows 1\r;", 1, 7);
        Check.headlandFault("Grows 1;", 1, 0);
        Check.headlandFault("grows 1.", 1, 7);
        Check.headlandFault("grows -1;", 1, 6);
        Check.headlandFault("\u00e9", 1, 0);
        Check.due("a name of seven letters", Check.headland(new PromiseTrees(), "man abcdefg 0 0;"), 1);
    }

    private static void lines() {
        Check.headlandFault("grows 1", 1, 7);
        Check.headlandFault("grows 1  ", 1, 9);
        Check.headlandFault("grows", 1, 5);
        Check.headlandFault("grows ;", 1, 6);
        Check.headlandFault(";", 1, 0);
        Check.headlandFault("grows 1;;", 1, 8);
        Check.headlandFault("oak 1;", 1, 0);
        Check.headlandFault("kept 1;", 1, 0);
        Check.headlandFault("7;", 1, 0);
        Check.headlandFault("man man 0 0;", 1, 4);
        Check.headlandFault("man shaded 0 0;", 1, 4);
        Check.headlandFault("man freed 0 0;", 1, 4);
        Check.headlandFault("man number 0 0;", 1, 4);
        Check.headlandFault(TWO + "promise p to n 1 1 1 1;", 1, 30);
        Check.headlandFault(TWO + "promise p m n 1 1 1;", 1, 39);
        Check.headlandFault("land 4 x;", 1, 7);
    }

    private static void numbers() {
        Check.headlandFault("land 1 5;", 2, 5);
        Check.headlandFault("land 9 5;", 2, 5);
        Check.headlandFault("land 5 1;", 2, 7);
        Check.headlandFault("land 8 9;", 2, 7);
        Check.due("the least land", Check.headland(new PromiseTrees(), "land 2 2;"), 1);
        Check.due("the widest land", Check.headland(new PromiseTrees(), "land 8 8;man m 7 7;"), 2);
        Check.headlandFault("grows 10;", 2, 6);
        Check.headlandFault("storm 13;", 2, 6);
        Check.headlandFault("land 5 2;man m 5 0;", 2, 15);
        Check.headlandFault("land 5 2;man m 4 2;", 2, 17);
        Check.headlandFault("man m 4 0;", 2, 6);
        Check.headlandFault("man m 0 4;", 2, 8);
        Check.headlandFault(TWO + "promise p m n 1 1 61 1;", 2, 38);
        Check.headlandFault(TWO + "promise p m n 1 1 60 400;", 2, 41);
        Check.due("the most of each", Check.headland(new PromiseTrees(),
            TWO + "promise p m n 3 3 60 399;grows 9;storm 12;"), 5);
    }

    private static void names() {
        Check.headlandFault("man m 0 0;man m 1 1;", 3, 14);
        Check.headlandFault(TWO + "promise m m n 1 1 1 1;", 3, 28);
        Check.headlandFault(FOUR + "man p 3 3;", 3, 68);
        Check.headlandFault(FOUR + "promise p m n 3 3 1 1;", 3, 72);
        Check.headlandFault(TWO + "promise p o n 1 1 1 1;", 3, 30);
        Check.headlandFault(TWO + "promise p m o 1 1 1 1;", 3, 32);
        Check.headlandFault(TWO + "promise p p n 1 1 1 1;", 3, 30);
        Check.headlandFault(FOUR + "promise r m p 3 3 1 1;", 3, 76);
        Check.headlandFault(TWO + "promise p m m 1 1 1 1;", 3, 32);
        Check.headlandFault("clash p q;", 3, 6);
        Check.headlandFault(FOUR + "clash m q;", 3, 70);
        Check.headlandFault(FOUR + "clash p r;", 3, 72);
        Check.headlandFault(FOUR + "clash p p;", 3, 72);
        Check.headlandFault(FOUR + "clash p q;clash p q;", 3, 82);
        Check.headlandFault(FOUR + "clash p q;clash q p;", 3, 82);
    }

    private static void cells() {
        Check.headlandFault("man m 0 0;man n 0 0;", 3, 18);
        Check.headlandFault(TWO + "promise p m n 1 0 1 1;", 3, 36);
        Check.headlandFault(FOUR + "man o 2 1;", 3, 72);
        Check.headlandFault(FOUR + "promise r m n 1 1 99 999;", 3, 80);
        Check.headlandFault("man m 0 0;man n 0 4;", 2, 18);
    }

    private static void onceOnly() {
        Check.headlandFault("land 5 5;land 5 5;", 3, 9);
        Check.headlandFault("land 4 4;land", 3, 9);
        Check.headlandFault("man m 0 0;land 5 5;", 3, 10);
        Check.headlandFault("grows 1;grows 1;", 3, 8);
        Check.headlandFault("storm 1;grows 1;storm 1;", 3, 16);
        Check.due("land behind grows and storm", Check.headland(new PromiseTrees(), "grows 1;storm 2;land 3 3;"), 3);
    }

    private static void tooMany() {
        StringBuilder men = new StringBuilder("land 8 8;");
        for (int m = 0; m < 6; m++) {
            men.append("man ").append((char) ('a' + m)).append(' ').append(m).append(" 0;");
        }
        Check.headlandFault(men + "man g 6 0;", 4, 69);
        Check.headlandFault(men + "man", 4, 69);
        StringBuilder words = new StringBuilder(men);
        for (int p = 0; p < 10; p++) {
            words.append("promise ").append((char) ('k' + p)).append(" a b ").append(p % 8).append(' ')
                .append(1 + p / 8).append(" 1 1;");
        }
        Check.due("six men and ten promises", Check.headland(new PromiseTrees(), words.toString()), 17);
        Check.headlandFault(words + "promise z a b 7 7 1 1;", 4, 69 + 220);
        StringBuilder clashes = new StringBuilder(words);
        for (int q = 1; q <= 8; q++) {
            clashes.append("clash k ").append((char) ('k' + q)).append(';');
        }
        Check.due("eight clashes", Check.headland(new PromiseTrees(), clashes.toString()), 25);
        Check.headlandFault(clashes + "clash k t;", 4, 69 + 220 + 80);
        Check.headlandFault(clashes + "clash l;", 4, 69 + 220 + 80);
    }

    private static void tooLong() {
        PromiseTrees x = new PromiseTrees();
        Check.due("900 bytes", Check.headland(x, "grows 7;" + " ".repeat(892)), 1);
        Check.due("grows", x.count(5), 7);
        Check.headlandFault("grows 7;" + " ".repeat(893), 1, 900);
        Check.headlandFault("grows 7" + " ".repeat(933), 1, 900);
        Check.headlandFault(" ".repeat(896) + "grows 7;", 1, 900);
        Check.headlandFault(" ".repeat(892) + "grows 10;", 2, 898);
        Check.headlandFault(" ".repeat(893) + "grows 10;", 2, 899);
        Check.headlandFault(" ".repeat(894) + "grows 10;", 1, 900);
        Check.headlandFault(" ".repeat(899) + "growsgrowsgrows", 1, 899);
    }

    private static void faultOfTheLatest() {
        PromiseTrees x = new PromiseTrees();
        Check.due("ahead of any", x.fault(), 0);
        Check.headland(x, "land 1 1;");
        Check.due("of a headland", x.fault(), 2);
        x.book(7);
        Check.due("a book of -1000 leaves it", x.fault(), 2);
        Check.book(x, "oak kept;", 0);
        Check.due("of a book", x.fault(), 3);
        Check.sentence(x, "oak");
        Check.due("of a sentence", x.fault(), 1);
        Check.headland(x, "grows 1;");
        Check.due("without one", x.fault(), 0);
        Check.sentence(x, "oak");
        Check.book(x, "", 0);
        Check.due("without one in a book", x.fault(), 0);
        Check.sentence(x, "oak");
        Check.sentence(x, "kept");
        Check.due("without one in a sentence", x.fault(), 0);
        Check.sentence(x, "oak");
        Check.sworn(x, 1, 2);
        Check.due("what is sworn leaves it", x.fault(), 1);
    }
}
