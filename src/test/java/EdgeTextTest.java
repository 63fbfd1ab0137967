/** The bounds that "Terms" tells of texts, each on both sides. A ^ in a text stands where its fault is due. */
public final class EdgeTextTest {
    private static final String TWO = "man m 0 0;man n 1 0;";
    private static final String WORDS = "land man promise clash grows storm kept broken freed watered day or and not "
        + "stands fell stump shaded by to tall till number";

    public static void main(String[] args) {
        everyByte();
        wordsAndNumbers();
        blanksOrNot();
        landSizes();
        landOnce();
        cellsInLand();
        cellsTaken();
        tallAndTill();
        growsAndStorm();
        unlike();
        clashOnce();
        namesOfTheLanguage();
        namesToldOnce();
        sixMen();
        tenPromises();
        eightClashes();
        numberedFromNought();
        headlandBytes();
        bookLines();
        bookDays();
        bookNames();
        bookBytes();
        sentenceOnes();
        sentenceWithin();
        sentenceNumbers();
        sentenceNames();
        sentenceBytes();
        leastOfOneToken();
        firstAlongTheText();
        endsOfTexts();
        Check.close();
    }

    private static String unmarked(String text) {
        return text.replace("^", "");
    }

    private static void headland(String text, int kind) {
        Check.headlandFault(unmarked(text), kind, text.indexOf('^'));
    }

    private static void book(String text, int kind) {
        Check.bookFault(unmarked(text), kind, text.indexOf('^'));
    }

    private static void sentence(String text, int kind) {
        Check.sentenceFault(unmarked(text), kind, text.indexOf('^'));
    }

    private static void lines(String text, int lines) {
        PromiseTrees x = new PromiseTrees();
        Check.due("lines of '" + text + "'", Check.headland(x, text), lines);
        Check.due("no fault in '" + text + "'", x.fault(), 0);
    }

    private static void bookFine(String text, int lines) {
        PromiseTrees x = Check.on(Check.WOOD);
        Check.due("book '" + text + "'", Check.book(x, text, 0), -1);
        Check.due("lines of book '" + text + "'", x.told(1), lines);
    }

    private static void ones(String text, int ones) {
        PromiseTrees x = Check.on(Check.WOOD);
        Check.due("ones of '" + text + "'", Check.sentence(x, text), ones);
        Check.due("no fault in '" + text + "'", x.fault(), 0);
    }

    // ---- tokens ----

    private static boolean inWords(int b) {
        return b >= 'a' && b <= 'z' || b >= '0' && b <= '9';
    }

    /** Blanks are 32 and 10, and no other byte. */
    private static void everyByte() {
        for (int b = 0; b < 256; b++) {
            boolean blank = b == 32 || b == 10;
            PromiseTrees x = new PromiseTrees();
            Check.due("byte " + b + " between tokens", Check.headland(x, "grows" + (char) b + "2;"),
                blank ? 1 : inWords(b) ? -1 : -6);
            Check.due("its fault", x.fault(), blank ? 0 : 1);
            Check.due("byte " + b + " alone", Check.headland(x, "" + (char) b), blank ? 0 : -1);
            Check.due("byte " + b + " behind a line", Check.headland(x, "grows 2;" + (char) b), blank ? 1 : -9);
            Check.due("byte " + b + " ahead of a line", Check.headland(x, (char) b + "grows 2;"), blank ? 1 : -1);
            Check.due("byte " + b + " behind a number", Check.headland(x, "grows 2" + (char) b),
                inWords(b) ? -7 : blank ? -9 : b == ';' ? 1 : -8);
        }
    }

    private static void wordsAndNumbers() {
        lines("man a 0 0;", 1);
        lines("man abcdefg 0 0;", 1);
        headland("man ^abcdefgh 0 0;", 1);
        lines(TWO + "promise a m n 0 1 0 0;", 3);
        lines(TWO + "promise zzzzzzz m n 0 1 0 0;", 3);
        headland(TWO + "promise ^zzzzzzzz m n 0 1 0 0;", 1);
        headland(TWO + "promise p ^abcdefgh n 0 1 0 0;", 1);
        lines("grows 9;", 1);
        lines("grows 09;", 1);
        lines("grows 009;", 1);
        headland("grows ^0009;", 1);
        headland("grows ^1000;", 1);
        headland("man ^a1 0 0;", 1);
        headland("man ^1a 0 0;", 1);
        headland("man a ^0b 0;", 1);
        headland("^man1 a 0 0;", 1);
        headland("man^A 0 0;", 1);
        headland("man a^B 0 0;", 1);
        headland("grows ^1234567890123456789012345678901234567890;", 1);
        headland("^abcdefghijklmnopqrstuvwxyzabcdefghijklmnopqrstuvwxyz;", 1);
        headland("man a 0 0;man ^aaaaaaaa 1 1;", 1);
        book("day ^0001;", 1);
        book("^oakoakoa kept;", 1);
        sentence("tall = ^0001", 1);
        sentence("^standsss", 1);
        ones("tall=999", 1);
    }

    private static void blanksOrNot() {
        lines("grows 2;storm 3;", 2);
        lines("\n\n grows\n 2 \n;  storm \n3\n;\n", 2);
        ones("(kept)and(not(fell))or(tall<5)", 8);
        ones(" ( kept ) and ( not ( fell ) ) or ( tall < 5 ) ", 8);
        headland("^growsstorm 2;", 1);
        headland("^grows2;", 1);
        bookFine("oak\nkept;day\n1;", 2);
        book("^oakkept;", 3);
        book("^day1;", 1);
    }

    // ---- a headland ----

    private static void landSizes() {
        for (int n : new int[] {0, 1, 9, 10, 99, 999}) {
            headland("land ^" + n + " 5;", 2);
            headland("land 5 ^" + n + ";", 2);
        }
        for (int n = 2; n <= 8; n++) {
            PromiseTrees x = new PromiseTrees();
            Check.due("wide", Check.headland(x, "land " + n + " 5;"), 1);
            Check.due("so wide", x.count(2) * 10 + x.count(3), n * 10 + 5);
            Check.due("high", Check.headland(x, "land 5 " + n + ";"), 1);
            Check.due("so high", x.count(2) * 10 + x.count(3), 50 + n);
        }
        headland("land 5^;", 1);
        headland("land 5 5 ^5;", 1);
    }

    private static void landOnce() {
        headland("land 5 5;^land 5 5;", 3);
        headland("land 5 5;grows 1;storm 1;^land 6 6;", 3);
        headland("man m 0 0;^land 5 5;", 3);
        headland("land 5 5;man m 0 0;^land 5 5;", 3);
        headland(TWO + "promise p m n 0 1 0 0;^land", 3);
        lines("grows 2;storm 2;land 5 5;man m 4 4;", 4);
    }

    private static void cellsInLand() {
        lines("man m 3 3;man n 0 0;promise p m n 3 0 0 0;", 3);
        headland("man m ^4 3;", 2);
        headland("man m 3 ^4;", 2);
        headland(TWO + "promise p m n ^4 3 0 0;", 2);
        headland(TWO + "promise p m n 3 ^4 0 0;", 2);
        for (int n = 2; n <= 8; n++) {
            String wide = "land " + n + " 2;";
            String high = "land 2 " + n + ";";
            lines(wide + "man m " + (n - 1) + " 1;man n 0 0;promise p m n " + (n - 1) + " 0 0 0;", 4);
            headland(wide + "man m ^" + n + " 0;", 2);
            headland(wide + "man m " + (n - 1) + " ^2;", 2);
            headland(wide + TWO + "promise p m n ^" + n + " 1 0 0;", 2);
            lines(high + "man m 1 " + (n - 1) + ";man n 0 0;promise p m n 0 " + (n - 1) + " 0 0;", 4);
            headland(high + "man m 0 ^" + n + ";", 2);
            headland(high + "man m ^2 " + (n - 1) + ";", 2);
            headland(high + TWO + "promise p m n 1 ^" + n + " 0 0;", 2);
        }
        headland("man m ^999 0;", 2);
        headland("man m 0 ^999;", 2);
    }

    private static void cellsTaken() {
        headland("man m 2 1;man n 2 ^1;", 3);
        headland(TWO + "promise p m n 1 ^0 0 0;", 3);
        headland(TWO + "promise p m n 2 2 0 0;man o 2 ^2;", 3);
        headland(TWO + "promise p m n 2 2 0 0;promise q m n 2 ^2 0 0;", 3);
        lines(TWO + "promise p m n 2 1 0 0;promise q m n 1 2 0 0;man o 2 2;", 5);
        headland("land 8 8;man m 7 7;man n 7 ^7;", 3);
        headland("man m 0 0;man n 0 ^4;", 2);
    }

    private static void tallAndTill() {
        for (int n : new int[] {0, 1, 59, 60}) {
            PromiseTrees x = Check.on(TWO + "promise p m n 2 2 " + n + " 9;");
            Check.due("tall", x.promise(0, 4), n);
        }
        for (int n : new int[] {61, 99, 100, 999}) {
            headland(TWO + "promise p m n 2 2 ^" + n + " 9;", 2);
        }
        for (int n : new int[] {0, 1, 398, 399}) {
            PromiseTrees x = Check.on(TWO + "promise p m n 2 2 9 " + n + ";");
            Check.due("till", x.promise(0, 5), n);
        }
        for (int n : new int[] {400, 401, 999}) {
            headland(TWO + "promise p m n 2 2 9 ^" + n + ";", 2);
        }
    }

    private static void growsAndStorm() {
        for (int n = 0; n <= 9; n++) {
            Check.due("grows", Check.on("grows " + n + ";").count(5), n);
        }
        for (int n = 0; n <= 12; n++) {
            Check.due("storm", Check.on("storm " + n + ";").count(6), n);
        }
        for (int n : new int[] {10, 11, 999}) {
            headland("grows ^" + n + ";", 2);
        }
        for (int n : new int[] {13, 99, 999}) {
            headland("storm ^" + n + ";", 2);
        }
        Check.due("1 without 'grows'", Check.on("storm 9;").count(5), 1);
        Check.due("1 without 'storm'", Check.on("grows 9;").count(6), 1);
        headland("grows 1;^grows 1;", 3);
        headland("storm 1;^storm 1;", 3);
        headland("grows 0;man m 0 0;storm 0;^grows", 3);
        lines("grows 1;storm 1;", 2);
    }

    private static void unlike() {
        headland(TWO + "promise p m ^m 1 1 0 0;", 3);
        headland(TWO + "promise p n ^n 1 1 0 0;", 3);
        lines(TWO + "promise p n m 1 1 0 0;", 3);
        headland(TWO + "promise p m n 1 1 0 0;clash p ^p;", 3);
    }

    private static void clashOnce() {
        String three = TWO + "promise p m n 1 1 0 0;promise q m n 2 1 0 0;promise r n m 3 1 0 0;";
        headland(three + "clash p q;clash p ^q;", 3);
        headland(three + "clash p q;clash q ^p;", 3);
        headland(three + "clash p q;clash q r;clash r p;clash r ^q;", 3);
        PromiseTrees x = Check.on(three + "clash p q;clash r q;clash p r;");
        Check.due("three", x.count(4), 3);
        Check.due("with both others", x.promise(0, 8) * 100 + x.promise(1, 8) * 10 + x.promise(2, 8), 653);
        headland(three + "clash ^m q;", 3);
        headland(three + "clash p ^n;", 3);
        headland(three + "clash ^s q;", 3);
        headland(three + "clash p ^s;", 3);
        headland(TWO + "clash ^p q;promise p m n 1 1 0 0;", 3);
    }

    /** None of the words told of a headland, a book or a sentence is a name. */
    private static void namesOfTheLanguage() {
        String[] words = WORDS.split(" ");
        Check.due("23 words", words.length, 23);
        for (String word : words) {
            headland("man ^" + word + " 0 0;", 1);
            headland(TWO + "promise ^" + word + " m n 1 1 0 0;", 1);
            headland(TWO + "promise p ^" + word + " n 1 1 0 0;", 1);
            headland(TWO + "promise p m ^" + word + " 1 1 0 0;", 1);
            sentence("by ^" + word, 1);
            lines("man " + word.substring(0, word.length() - 1) + "q 0 0;", 1);
            if (word.length() < 7) {
                lines("man " + word + "z 0 0;", 1);
                lines("man z" + word + " 0 0;", 1);
            }
        }
        for (String word : new String[] {"wide", "high", "cell", "door", "tree", "falls", "days", "open", "none"}) {
            lines("man " + word + " 0 0;", 1);
        }
    }

    private static void namesToldOnce() {
        headland("man m 0 0;man ^m 1 0;", 3);
        headland(TWO + "promise ^n m n 1 1 0 0;", 3);
        headland(TWO + "promise p m n 1 1 0 0;man ^p 2 2;", 3);
        headland(TWO + "promise p m n 1 1 0 0;promise ^p m n 2 2 0 0;", 3);
        headland(TWO + "promise p ^p n 1 1 0 0;", 3);
        headland(TWO + "promise p m ^p 1 1 0 0;", 3);
        headland(TWO + "promise p ^o n 1 1 0 0;man o 2 2;", 3);
        lines("man m 0 0;man mm 1 0;promise mmm m mm 1 1 0 0;", 3);
    }

    private static String men(int many) {
        StringBuilder text = new StringBuilder("land 8 8;");
        for (int m = 0; m < many; m++) {
            text.append("man ").append((char) ('a' + m)).append(' ').append(m).append(" 0;");
        }
        return text.toString();
    }

    private static String promises(int many) {
        StringBuilder text = new StringBuilder(men(2));
        for (int p = 0; p < many; p++) {
            text.append("promise ").append((char) ('k' + p)).append(" a b ").append(p % 8).append(' ')
                .append(1 + p / 8).append(" 0 0;");
        }
        return text.toString();
    }

    private static void sixMen() {
        lines(men(6), 7);
        headland(men(6) + "^man g 6 0;", 4);
        headland(men(6) + "^man", 4);
        headland(men(6) + "^man a 99 99;", 4);
        lines(men(6) + "promise p a f 0 1 0 0;", 8);
        Check.due("six", Check.on(men(6)).count(0), 6);
    }

    private static void tenPromises() {
        lines(promises(10), 13);
        headland(promises(10) + "^promise z a b 7 7 0 0;", 4);
        headland(promises(10) + "^promise", 4);
        lines(promises(10) + "man z 7 7;clash k t;", 15);
        Check.due("ten", Check.on(promises(10)).count(1), 10);
    }

    private static void eightClashes() {
        StringBuilder text = new StringBuilder(promises(10));
        for (int q = 1; q <= 8; q++) {
            text.append("clash k ").append((char) ('k' + q)).append(';');
        }
        lines(text.toString(), 21);
        headland(text + "^clash k t;", 4);
        headland(text + "^clash k l;", 4);
        headland(text + "^clash z z;", 4);
        Check.due("eight", Check.on(text.toString()).count(4), 8);
        lines(text + "man z 7 7;", 22);
    }

    private static void numberedFromNought() {
        PromiseTrees x = Check.on("man m 3 0;grows 4;man n 1 0;promise p n m 2 2 7 8;man o 0 2;promise q o n 2 3 9 10;");
        Check.due("m", x.man(0, 0), 3);
        Check.due("n", x.man(1, 0), 1);
        Check.due("o", x.man(2, 1), 2);
        Check.due("p", x.promise(0, 0) * 10 + x.promise(0, 1), 10);
        Check.due("q", x.promise(1, 0) * 10 + x.promise(1, 1), 21);
    }

    private static String blanks(int many) {
        return " ".repeat(Math.max(0, many));
    }

    private static void headlandBytes() {
        lines(blanks(892) + "grows 2;", 1);
        lines("grows 2;" + blanks(892), 1);
        headland("grows 2;" + blanks(892) + "^ ", 1);
        headland(blanks(893) + "grows 2^;", 1);
        headland(blanks(894) + "grows ^2;", 1);
        headland(blanks(895) + "grows^ 2;", 1);
        headland(blanks(896) + "grow^s 2;", 1);
        headland(blanks(896) + "^grow 2;", 1);
        headland(blanks(899) + "g^rows 2;", 1);
        headland(blanks(899) + "^zrows 2;", 1);
        headland(blanks(900) + "^grows 2;", 1);
        headland(blanks(900) + "^zrows 2;", 1);
        headland(blanks(893) + "grows ^10;", 2);
        headland(blanks(892) + "grows ^10;", 2);
        headland(blanks(894) + "grows ^10;", 1);
        headland("grows 2;" + blanks(891) + "^grows", 3);
        headland("grows 2;" + blanks(892) + "^grows", 1);
        headland(blanks(300) + "^." + blanks(639), 1);
        headland(blanks(900) + "^" + blanks(40), 1);
        lines(blanks(900), 0);
        PromiseTrees x = Check.on(Check.WOOD);
        Check.due("a word whose end is beyond is read whole",
            Check.headland(x, blanks(890) + "man abcdefg 0 0;"), -901);
        Check.due("kind", x.fault(), 1);
    }

    // ---- a book ----

    private static void bookLines() {
        bookFine("day 1;".repeat(39), 39);
        bookFine("day 1;".repeat(40), 40);
        book("day 1;".repeat(40) + "^day 1;", 4);
        book("day 1;".repeat(40) + "^day", 4);
        book("day 1;".repeat(40) + "\n ^oak kept;", 4);
        book("day 1;".repeat(40) + "^oak", 4);
        book("day 1;".repeat(40) + "^zz kept;", 3);
        book("day 1;".repeat(40) + "^ann kept;", 3);
        book("day 1;".repeat(40) + "^kept;", 1);
        book("day 1;".repeat(40) + "^1;", 1);
        bookFine("day 1;".repeat(40) + blanks(160), 40);
    }

    private static void bookDays() {
        bookFine("day 1;", 1);
        bookFine("day 60;", 1);
        bookFine("day 060;", 1);
        for (int n : new int[] {0, 61, 100, 999}) {
            book("day ^" + n + ";", 2);
        }
        book("day^;", 1);
        book("day 1 ^1;", 1);
        book("day 1^", 1);
    }

    private static void bookNames() {
        for (String act : new String[] {"kept", "broken", "freed", "watered"}) {
            bookFine("oak " + act + ";", 1);
        }
        for (String word : WORDS.split(" ")) {
            boolean act = word.equals("kept") || word.equals("broken") || word.equals("freed") || word.equals("watered");
            if (!act) {
                book("oak ^" + word + ";", 1);
            }
            if (!word.equals("day")) {
                book("^" + word + " kept;", 1);
            }
        }
        book("oak ^elm;", 1);
        book("oak ^7;", 1);
        book("oak ^;", 1);
        book("^zz kept;", 3);
        book("^ann kept;", 3);
        book("oak kept ^elm kept;", 1);
        book("oak kept;^;", 1);
        book("^;", 1);
        PromiseTrees x = new PromiseTrees();
        Check.due("none is told", Check.book(x, "oak kept;", 0), -2);
        Check.due("kind", x.fault(), 3);
    }

    private static void bookBytes() {
        bookFine(blanks(391) + "oak kept;", 1);
        bookFine("oak kept;" + blanks(391), 1);
        bookFine(blanks(400), 0);
        book(blanks(400) + "^ ", 1);
        book(blanks(392) + "oak kept^;", 1);
        book(blanks(393) + "oak kep^t;", 1);
        book(blanks(396) + "oak ^kept;", 1);
        book(blanks(395) + "oak ^zept;", 1);
        book(blanks(396) + "oak ^zept;", 1);
        book(blanks(399) + "^zz kept;", 3);
        book(blanks(400) + "^zz kept;", 1);
        book(blanks(395) + "day ^61;", 2);
        book(blanks(396) + "day ^61;", 1);
        book("day 1;".repeat(40) + blanks(159) + "^oak kept;", 4);
        book("day 1;".repeat(40) + blanks(160) + "^oak kept;", 1);
        book(blanks(400) + "^" + blanks(540), 1);
    }

    // ---- a sentence ----

    private static void sentenceOnes() {
        ones("kept" + " or kept".repeat(18), 19);
        ones("kept" + " or kept".repeat(19), 20);
        sentence("kept" + " or kept".repeat(19) + " or ^kept", 4);
        sentence("kept" + " and kept".repeat(19) + " and ^kept", 4);
        sentence("kept" + " or kept".repeat(19) + " or ^by zz", 4);
        sentence("kept" + " or kept".repeat(19) + " or ^zz", 1);
        sentence("kept" + " or kept".repeat(18) + " or not ^kept", 4);
        sentence("kept" + " or kept".repeat(18) + " or ( ^kept )", 4);
        ones("kept" + " or kept".repeat(17) + " or not kept", 20);
        ones("kept" + " or kept".repeat(17) + " or (kept)", 20);
        ones("tall<1" + " or by ann".repeat(4) + " or to bob and till=3 or number>4", 8);
        // ten brackets of one: twenty, whose brackets are not within one another
        ones("(kept)" + "or(kept)".repeat(9), 20);
        sentence("(kept)" + "or(kept)".repeat(9) + "or^(kept)", 4);
    }

    private static void sentenceWithin() {
        ones("not ".repeat(7) + "kept", 8);
        sentence("not ".repeat(8) + "^kept", 4);
        sentence("not ".repeat(8) + "^not kept", 4);
        sentence("not ".repeat(8) + "^(kept)", 4);
        sentence("not ".repeat(8) + "^by zz", 4);
        sentence("not ".repeat(8) + "^zz", 1);
        sentence("not ".repeat(8) + "^", 1);
        ones("(".repeat(7) + "kept" + ")".repeat(7), 8);
        sentence("(".repeat(8) + "^kept" + ")".repeat(8), 4);
        sentence("(".repeat(8) + "^(kept" + ")".repeat(9), 4);
        ones("(not(not(not not kept)))", 8);
        ones("not(".repeat(3) + "not kept" + ")".repeat(3), 8);
        sentence("not(".repeat(4) + "^kept" + ")".repeat(4), 4);
        // what is closed is no more around what follows; ONES side by side are not within one another
        ones("(".repeat(7) + "kept" + ")".repeat(7) + "or" + "(".repeat(7) + "fell" + ")".repeat(7), 16);
        ones("(".repeat(7) + "kept or fell and stump" + ")".repeat(7), 10);
        sentence("(".repeat(7) + "kept or not ^fell" + ")".repeat(7), 4);
        ones("not ".repeat(7) + "kept and " + "not ".repeat(7) + "fell", 16);
    }

    private static void sentenceNumbers() {
        for (String what : new String[] {"tall", "till", "number"}) {
            for (String sign : new String[] {"<", "=", ">"}) {
                ones(what + sign + "0", 1);
                ones(what + sign + "999", 1);
                sentence(what + sign + "^1000", 1);
                sentence(what + sign + "^ann", 1);
                sentence(what + sign + "^" + sign + "1", 1);
            }
            sentence(what + "^", 1);
            sentence(what + " ^5", 1);
            sentence(what + " ^; 5", 1);
        }
    }

    private static void sentenceNames() {
        ones("by ann", 1);
        ones("to cid", 1);
        for (String what : new String[] {"by", "to"}) {
            sentence(what + " ^oak", 3);
            sentence(what + " ^zz", 3);
            sentence(what + " ^7", 1);
            sentence(what + "^", 1);
            sentence(what + " ^(", 1);
        }
        for (String word : "land man promise clash grows storm broken freed watered day or and".split(" ")) {
            sentence("^" + word, 1);
        }
        for (String word : "stands kept fell stump shaded".split(" ")) {
            ones(word, 1);
        }
    }

    private static void sentenceBytes() {
        ones(blanks(196) + "kept", 1);
        ones("kept" + blanks(196), 1);
        sentence("kept" + blanks(196) + "^ ", 1);
        sentence(blanks(197) + "kep^t", 1);
        sentence(blanks(197) + "^zep", 1);
        sentence(blanks(199) + "^zept", 1);
        sentence(blanks(200) + "^", 1);
        sentence(blanks(196) + "by ^zz", 3);
        sentence(blanks(197) + "by ^zz", 1);
        sentence("kept" + blanks(195) + "^fell", 1);
        sentence("kept" + blanks(196) + "^fell", 1);
        sentence(blanks(200) + "^kept", 1);
        sentence("not ".repeat(8) + blanks(167) + "^kept", 4);
        sentence("not ".repeat(8) + blanks(168) + "^kept", 1);
        sentence(blanks(200) + "^" + blanks(740), 1);
    }

    // ---- faults ----

    /** Of one TOKEN the least: where two kinds could be told of one token. */
    private static void leastOfOneToken() {
        String forty = "day 1;".repeat(40);
        book(forty + "^zz kept;", 3);
        book(forty + "^stands;", 1);
        sentence("not ".repeat(8) + "^oak", 1);
        sentence("kept" + " or kept".repeat(19) + " or ^)", 1);
        headland("man m 0 0;man n 0 ^7;", 2);
        headland("land 2 2;man m 0 0;man n 0 ^2;", 2);
        headland(men(6) + "^man man 99 99;", 4);
    }

    /** Of two faults the one that is first along the text. */
    private static void firstAlongTheText() {
        headland("grows ^10;grows .", 2);
        headland("man m ^9 9;.", 2);
        headland("man ^. 9 9;", 1);
        headland("grows 1;^grows 99;", 3);
        headland(TWO + "promise p ^o o 9 9 99 999;", 3);
        headland(TWO + "promise p m ^m 9 9 99 999;", 3);
        headland(TWO + "promise p m n ^9 9 99 999;", 2);
        headland(TWO + "promise p m n 1 ^0 99 999;", 3);
        headland(TWO + "promise p m n 1 1 ^99 999;", 2);
        headland(TWO + "promise p m n 1 1 9 ^999", 2);
        book("^zz zz;", 3);
        book("day ^99", 2);
        sentence("by ^zz zz", 3);
    }

    /** At the end: how many bytes there are, blanks counted. */
    private static void endsOfTexts() {
        headland("grows 1^", 1);
        headland("grows 1  \n ^", 1);
        headland("grows^", 1);
        headland("man m 0 0;man^", 1);
        headland("man m 0 0;man n ^", 1);
        headland(TWO + "promise p m n 1 1 1 1^", 1);
        headland(TWO + "promise p m n 1 1 1^", 1);
        headland("clash^", 1);
        book("oak^", 1);
        book("oak kept^", 1);
        book("day^", 1);
        book("day 1 ^", 1);
        sentence("^", 1);
        sentence("   ^", 1);
        sentence("not^", 1);
        sentence("kept or^", 1);
        sentence("kept and ^", 1);
        sentence("(kept^", 1);
        sentence("tall^", 1);
        sentence("tall <^", 1);
        sentence("by^", 1);
    }
}
