import java.util.NoSuchElementException;

/** Every promise plants a tree: a headland, its men, their promises and what becomes of them. */
public final class PromiseTrees {

    public static final int NONE = -1;

    private static final int MEN_MOST = 6;
    private static final int PROMISES_MOST = 10;
    private static final int CLASHES_MOST = 8;
    private static final int SIDE_MOST = 8;
    private static final int DAYS_ALL = 400;
    private static final int DAYS_AT_ONCE = 60;
    private static final int TALLEST = 99;
    private static final int TAPE_BYTES = 940;
    private static final int HEADLAND_BYTES = 900;
    private static final int BOOK_BYTES = 400;
    private static final int SENTENCE_BYTES = 200;
    private static final int BOOK_LINES = 40;
    private static final int IMAGES = 2;

    private final Tape tape;
    private final Tokens tokens;
    private final Land land;
    private final LandReader landReader;
    private final World world;
    private final World trial;
    private final Past past;
    private final Reckoning reckoning;
    private final Book book;
    private final Sentence sentence;
    private final SentenceReader sentenceReader;
    private final Land[] imageLands;
    private final World[] imageWorlds;
    private final Sentence[] imageSentences;
    private final boolean[] imageTaken;
    private int faultKind;

    public PromiseTrees() {
        Tape newTape = new Tape();
        Tokens newTokens = new Tokens(newTape);
        Land newLand = new Land();
        tape = newTape;
        tokens = newTokens;
        land = newLand;
        landReader = new LandReader(newTokens);
        world = new World(newLand);
        trial = new World(newLand);
        past = new Past(newLand);
        reckoning = new Reckoning(newLand);
        book = new Book(newTokens, newLand);
        sentence = new Sentence();
        sentenceReader = new SentenceReader(newTokens, newLand);
        imageLands = new Land[IMAGES];
        imageWorlds = new World[IMAGES];
        imageSentences = new Sentence[IMAGES];
        imageTaken = new boolean[IMAGES];
        for (int k = 0; k < IMAGES; k++) {
            imageLands[k] = new Land();
            imageWorlds[k] = new World(newLand);
            imageSentences[k] = new Sentence();
        }
        faultKind = 0;
    }

    // ---- the tape and the headland ----

    public int feed(int a, int b, int c, int d, int e) {
        if (tape.length + 20 > TAPE_BYTES) {
            return NONE;
        }
        tape.append(a);
        tape.append(b);
        tape.append(c);
        tape.append(d);
        tape.append(e);
        return tape.length;
    }

    public boolean end(int n) {
        if (n < 0 || n > tape.length) {
            return false;
        }
        tape.length = n;
        return true;
    }

    public int headland() {
        tokens.open(HEADLAND_BYTES);
        boolean fine = landReader.reads();
        closeText();
        if (!fine) {
            return -1 - tokens.faultAt;
        }
        land.copyFrom(landReader.draft);
        world.begin();
        sentence.forget();
        past.forget();
        return landReader.lines;
    }

    public int fault() {
        return faultKind;
    }

    private void closeText() {
        faultKind = tokens.faultKind;
        tape.length = 0;
    }

    // ---- what is so ----

    public int promise(int p, int what) throws NoSuchElementException {
        if (!land.hasPromise(p) || what < 0 || what > 8) {
            throw new NoSuchElementException();
        }
        switch (what) {
            case 0: return land.giver[p];
            case 1: return land.taker[p];
            case 2: return land.treeX[p];
            case 3: return land.treeY[p];
            case 4: return world.tall[p];
            case 5: return land.till[p];
            case 6: return world.state[p];
            case 7: return world.isShaded(p) ? 1 : 0;
            default: return land.clash[p];
        }
    }

    public int man(int m, int what) throws NoSuchElementException {
        if (!land.hasMan(m) || what < 0 || what > 5) {
            throw new NoSuchElementException();
        }
        switch (what) {
            case 0: return land.doorX[m];
            case 1: return land.doorY[m];
            case 2: return land.givenBy(m) & world.bits(World.STANDS);
            case 3: return land.givenTo(m) & world.bits(World.STANDS);
            case 4: return world.keptSoFar[m];
            default: return Integer.bitCount(land.givenBy(m) & world.bits(World.FELL));
        }
    }

    public int cell(int x, int y) {
        if (!land.hasCell(x, y)) {
            return NONE;
        }
        return world.thingIn(x, y) + (world.isShut(x, y) ? 100 : 0);
    }

    public int now(int what) {
        switch (what) {
            case 0: return world.day;
            case 1: return world.bits(World.STANDS);
            case 2: return world.bits(World.KEPT);
            case 3: return world.bits(World.FELL);
            case 4: return world.bits(World.STUMP);
            case 5: return Long.bitCount(world.shut);
            case 6: return world.tallOf(world.uprightBits());
            case 7: return world.tallOf(world.bits(World.FELL));
            default: return NONE;
        }
    }

    // ---- acts ----

    public int keep(int p) {
        return act(World.TO_KEEP, p);
    }

    public int breaks(int p) {
        return act(World.TO_BREAK, p);
    }

    public int free(int p) {
        return act(World.TO_FREE, p);
    }

    public int water(int p) {
        return act(World.TO_WATER, p);
    }

    private int act(int deed, int p) {
        if (!land.hasPromise(p)) {
            return NONE;
        }
        int why = world.whyNot(deed, p);
        if (why == 0) {
            past.remember(world);
            world.carryOut(deed, p);
        }
        return why;
    }

    public int days(int n) {
        if (n < 1 || n > DAYS_AT_ONCE) {
            return NONE;
        }
        if (world.daysLeft() > 0) {
            past.remember(world);
        }
        return world.passDays(n);
    }

    public int undo() {
        return past.takeBack(world);
    }

    // ---- shade, light, falls and ways ----

    public int shades(int p) {
        return land.hasPromise(p) ? world.shadeOf(p) : NONE;
    }

    public int light(int k) {
        if (k < NONE) {
            return NONE;
        }
        int seen = 0;
        for (int y = 0; y < land.high; y++) {
            for (int x = 0; x < land.wide; x++) {
                if (world.isLight(x, y)) {
                    if (seen == k) {
                        return x + 10 * y;
                    }
                    seen++;
                }
            }
        }
        return k == NONE ? seen : NONE;
    }

    public int falls(int p) {
        if (!tryBreaking(p)) {
            return NONE;
        }
        return trial.bits(World.FELL) & ~world.bits(World.FELL);
    }

    public int shuts(int p) {
        if (!tryBreaking(p)) {
            return NONE;
        }
        return Long.bitCount(trial.shut) - Long.bitCount(world.shut);
    }

    /** Leaves in the trial world what would be if p was broken; false, if it can't be. */
    private boolean tryBreaking(int p) {
        if (!land.hasPromise(p) || world.state[p] != World.STANDS) {
            return false;
        }
        trial.copyFrom(world);
        trial.fall(p);
        return true;
    }

    public int way(int m, int o) {
        if (!land.hasMan(m) || !land.hasMan(o)) {
            return NONE;
        }
        return world.stepsBetween(m, o);
    }

    public int bars(int m, int o) {
        if (!land.hasMan(m) || !land.hasMan(o) || m == o || world.stepsBetween(m, o) == NONE) {
            return NONE;
        }
        int barring = 0;
        for (int p = 0; p < land.promises; p++) {
            if (tryBreaking(p) && trial.stepsBetween(m, o) == NONE) {
                barring |= 1 << p;
            }
        }
        return barring;
    }

    // ---- what is reckoned ----

    public int most() {
        return reckoning.chooseMost(world);
    }

    public int chosen() {
        return reckoning.chosenBits;
    }

    public int ring() {
        return reckoning.findRing(world);
    }

    public int ringAt(int k) {
        return k >= 0 && k < reckoning.ringLength ? reckoning.ringWords[k] : NONE;
    }

    public int sworn() {
        int sets = reckoning.countSworn(tape);
        tape.length = 0;
        return sets;
    }

    public int surely() {
        return reckoning.sureBits;
    }

    public int ask() {
        return reckoning.askedMan;
    }

    public int share(int w, int p) {
        if (w < 0 || w > 999 || !land.hasPromise(p) || world.state[p] != World.STANDS) {
            return NONE;
        }
        return reckoning.shareOf(world, w, p);
    }

    public int rounds() {
        return reckoning.findPrice(world.tallOf(world.bits(World.FELL)));
    }

    public int price() {
        return reckoning.latestPrice;
    }

    // ---- what will be ----

    public int when(int p, int h) {
        if (!land.hasPromise(p) || h < 0 || h > TALLEST) {
            return NONE;
        }
        trial.copyFrom(world);
        for (int k = 0; k < DAYS_ALL; k++) {
            if (trial.daysLeft() == 0 || trial.state[p] != World.STANDS) {
                return NONE;
            }
            if (trial.tall[p] >= h) {
                return trial.day;
            }
            trial.passDay();
        }
        return NONE;
    }

    public int first() {
        trial.copyFrom(world);
        int fallen = world.bits(World.FELL);
        for (int k = 0; k < DAYS_ALL; k++) {
            if (trial.daysLeft() == 0 || trial.bits(World.STANDS) == 0) {
                return NONE;
            }
            trial.passDay();
            if (trial.bits(World.FELL) != fallen) {
                return trial.day - 1;
            }
        }
        return NONE;
    }

    public int broken(int n) {
        if (n < 1 || n > DAYS_AT_ONCE) {
            return NONE;
        }
        trial.copyFrom(world);
        trial.passDays(n);
        return trial.bits(World.FELL) & ~world.bits(World.FELL);
    }

    public int drawn(int n, int seed) {
        if (n < 1 || n > DAYS_AT_ONCE || land.promises == 0) {
            return NONE;
        }
        if (world.daysLeft() > 0) {
            past.remember(world);
        }
        return world.passDrawnDays(n, seed);
    }

    public int odds(int p, int n, int seed) {
        if (!land.hasPromise(p) || n < 1 || n > 30) {
            return NONE;
        }
        int kept = 0;
        for (int k = 0; k < n; k++) {
            trial.copyFrom(world);
            trial.passDrawnDays(20, seed + k);
            if (trial.state[p] == World.KEPT) {
                kept++;
            }
        }
        return kept;
    }

    // ---- books, sentences and images ----

    public int book(int lives) {
        if (lives != 0 && lives != 1) {
            return -1000;
        }
        tokens.open(BOOK_BYTES);
        boolean fine = book.reads();
        closeText();
        if (!fine) {
            return -2 - tokens.faultAt;
        }
        if (lives == 1) {
            past.remember(world);
            return book.liveIn(world);
        }
        trial.copyFrom(world);
        return book.liveIn(trial);
    }

    public int told(int what) {
        return book.toldOf(what);
    }

    public int sentence() {
        tokens.open(SENTENCE_BYTES);
        boolean fine = sentenceReader.reads();
        closeText();
        if (!fine) {
            return -1 - tokens.faultAt;
        }
        sentence.copyFrom(sentenceReader.draft);
        return sentenceReader.ones;
    }

    public int said(int k) {
        if (!sentence.isThere() || k < NONE) {
            return NONE;
        }
        int those = sentence.saidOf(world);
        if (k == NONE) {
            return Integer.bitCount(those);
        }
        int seen = 0;
        for (int p = 0; p < land.promises; p++) {
            if ((those & (1 << p)) != 0) {
                if (seen == k) {
                    return p;
                }
                seen++;
            }
        }
        return NONE;
    }

    public boolean image(int k) {
        if (k < 0 || k >= IMAGES) {
            return false;
        }
        imageLands[k].copyFrom(land);
        imageWorlds[k].copyFrom(world);
        imageSentences[k].copyFrom(sentence);
        imageTaken[k] = true;
        return true;
    }

    public boolean restore(int k) {
        if (k < 0 || k >= IMAGES || !imageTaken[k]) {
            return false;
        }
        land.copyFrom(imageLands[k]);
        world.copyFrom(imageWorlds[k]);
        sentence.copyFrom(imageSentences[k]);
        past.forget();
        return true;
    }

    public int count(int what) {
        switch (what) {
            case 0: return land.men;
            case 1: return land.promises;
            case 2: return land.wide;
            case 3: return land.high;
            case 4: return land.clashes;
            case 5: return land.grows;
            case 6: return land.storm;
            case 7: return tape.length;
            default: return NONE;
        }
    }

    /** The bytes that have been fed and that no text has used yet. */
    private static final class Tape {
        final byte[] bytes = new byte[TAPE_BYTES];
        int length = 0;

        void append(int number) {
            for (int shift = 24; shift >= 0; shift -= 8) {
                if (length < TAPE_BYTES) {
                    bytes[length] = (byte) (number >>> shift);
                    length++;
                }
            }
        }

        int byteAt(int place) {
            return place >= 0 && place < length ? bytes[place] & 255 : 0;
        }
    }

    /** The tokens of a text, and the fault that its reader told. */
    private static final class Tokens {
        // kinds of tokens; a sign is its own kind, by its number
        static final int END = 0;
        static final int NAME = 1;
        static final int NUMBER = 2;
        static final int WRONG = 3;
        static final int LAND = 200;
        static final int MAN = 201;
        static final int PROMISE = 202;
        static final int CLASH = 203;
        static final int GROWS = 204;
        static final int STORM = 205;
        static final int BROKEN = 206;
        static final int FREED = 207;
        static final int WATERED = 208;
        static final int DAY = 209;
        static final int OR = 210;
        static final int AND = 211;
        static final int KEPT = 212;
        static final int NOT = 213;
        static final int STANDS = 214;
        static final int FELL = 215;
        static final int STUMP = 216;
        static final int SHADED = 217;
        static final int BY = 218;
        static final int TO = 219;
        static final int TALL = 220;
        static final int TILL = 221;
        static final int NUMBERED = 222;
        // in the order of the kinds from LAND on, with a blank behind each
        static final String SPELLING = "land man promise clash grows storm broken freed watered day or and kept not stands fell stump shaded by to tall till number ";
        static final int KEYWORDS = 23;

        // kinds of faults
        static final int UNFIT = 1;
        static final int RANGE = 2;
        static final int NAMING = 3;
        static final int SURPLUS = 4;

        static final int WORD_LETTERS = 7;
        static final int NUMBER_DIGITS = 3;
        static final int TOKENS_MOST = TAPE_BYTES + 1;

        final Tape tape;
        // what a word is compared by: its letters as the digits of a number
        private final long[] keywordCodes = new long[KEYWORDS];
        private final int[] kinds = new int[TOKENS_MOST];
        private final int[] places = new int[TOKENS_MOST];
        private final long[] values = new long[TOKENS_MOST];
        private int many = 0;
        private int next = 0;
        int kind = END;
        int faultKind = 0;
        int faultAt = 0;
        private int at = 0;
        private long value = 0L;

        Tokens(Tape tape) {
            this.tape = tape;
            int known = 0;
            long code = 0L;
            for (int i = 0; i < SPELLING.length(); i++) {
                int sign = SPELLING.charAt(i);
                if (sign != ' ') {
                    code = withLetter(code, sign);
                } else if (known < KEYWORDS) {
                    keywordCodes[known] = code;
                    known++;
                    code = 0L;
                }
            }
        }

        /** A text with too many bytes has no end: there is a token that can't come where it ought to be over. */
        void open(int mostBytes) {
            many = 0;
            next = 0;
            faultKind = 0;
            faultAt = 0;
            int bound = Math.min(tape.length, mostBytes);
            int place = 0;
            for (int k = 0; k < TAPE_BYTES && place < bound; k++) {
                int sign = tape.byteAt(place);
                if (isLetter(sign) || isDigit(sign)) {
                    place = readRun(place);
                } else {
                    if (!isBlank(sign)) {
                        addToken(isSign(sign) ? sign : WRONG, place, 0L);
                    }
                    place++;
                }
            }
            addToken(tape.length > mostBytes ? WRONG : END, bound, 0L);
        }

        private void addToken(int newKind, int place, long newValue) {
            if (many < TOKENS_MOST) {
                kinds[many] = newKind;
                places[many] = place;
                values[many] = newValue;
                many++;
            }
        }

        /** Reads a word or a number, whole even over the text's bound: the place behind it. */
        private int readRun(int begin) {
            int letters = 0;
            int digits = 0;
            long word = 0L;
            long number = 0L;
            int i = begin;
            for (; i < tape.length; i++) {
                int sign = tape.byteAt(i);
                if (isLetter(sign)) {
                    letters++;
                    word = withLetter(word, sign);
                } else if (isDigit(sign)) {
                    digits++;
                    number = number * 10L + (sign - '0');
                } else {
                    break;
                }
            }
            if (digits == 0 && letters <= WORD_LETTERS) {
                addToken(kindOfWord(word), begin, word);
            } else if (letters == 0 && digits <= NUMBER_DIGITS) {
                addToken(NUMBER, begin, number);
            } else {
                addToken(WRONG, begin, 0L);
            }
            return i;
        }

        private int kindOfWord(long code) {
            for (int k = 0; k < KEYWORDS; k++) {
                if (keywordCodes[k] == code) {
                    return LAND + k;
                }
            }
            return NAME;
        }

        private static long withLetter(long code, int letter) {
            return code * 27L + (letter - 'a' + 1);
        }

        private static boolean isBlank(int sign) {
            return sign == ' ' || sign == '\n';
        }

        private static boolean isLetter(int sign) {
            return sign >= 'a' && sign <= 'z';
        }

        private static boolean isDigit(int sign) {
            return sign >= '0' && sign <= '9';
        }

        private static boolean isSign(int sign) {
            return sign == ';' || sign == '<' || sign == '=' || sign == '>' || sign == '(' || sign == ')';
        }

        /** Goes to the next token; the last one stays. */
        void advance() {
            if (next < many && next < TOKENS_MOST) {
                kind = kinds[next];
                at = places[next];
                value = values[next];
                next++;
            }
        }

        /** Always false, so that a reader can answer with it. */
        boolean fail(int fault) {
            faultKind = fault;
            faultAt = at;
            return false;
        }

        boolean takeNumber(int low, int high) {
            advance();
            if (kind != NUMBER) {
                return fail(UNFIT);
            }
            return value >= low && value <= high || fail(RANGE);
        }

        boolean takeName() {
            advance();
            return kind == NAME || fail(UNFIT);
        }

        boolean takeLineEnd() {
            advance();
            return kind == ';' || fail(UNFIT);
        }

        int number() {
            return (int) value;
        }

        long name() {
            return value;
        }
    }

    /** A headland as it was told. */
    private static final class Land {
        int wide = 4;
        int high = 4;
        int grows = 1;
        int storm = 1;
        int men = 0;
        int promises = 0;
        int clashes = 0;
        final long[] manNames = new long[MEN_MOST];
        final int[] doorX = new int[MEN_MOST];
        final int[] doorY = new int[MEN_MOST];
        final long[] promiseNames = new long[PROMISES_MOST];
        final int[] giver = new int[PROMISES_MOST];
        final int[] taker = new int[PROMISES_MOST];
        final int[] treeX = new int[PROMISES_MOST];
        final int[] treeY = new int[PROMISES_MOST];
        final int[] planted = new int[PROMISES_MOST];
        final int[] till = new int[PROMISES_MOST];
        final int[] clash = new int[PROMISES_MOST];
        // the step from a cell of its trunk to the next one
        final int[] leanX = new int[PROMISES_MOST];
        final int[] leanY = new int[PROMISES_MOST];

        void clear() {
            wide = 4;
            high = 4;
            grows = 1;
            storm = 1;
            men = 0;
            promises = 0;
            clashes = 0;
            for (int p = 0; p < PROMISES_MOST; p++) {
                clash[p] = 0;
            }
        }

        void copyFrom(Land other) {
            wide = other.wide;
            high = other.high;
            grows = other.grows;
            storm = other.storm;
            men = other.men;
            promises = other.promises;
            clashes = other.clashes;
            for (int m = 0; m < MEN_MOST; m++) {
                manNames[m] = other.manNames[m];
                doorX[m] = other.doorX[m];
                doorY[m] = other.doorY[m];
            }
            for (int p = 0; p < PROMISES_MOST; p++) {
                promiseNames[p] = other.promiseNames[p];
                giver[p] = other.giver[p];
                taker[p] = other.taker[p];
                treeX[p] = other.treeX[p];
                treeY[p] = other.treeY[p];
                planted[p] = other.planted[p];
                till[p] = other.till[p];
                clash[p] = other.clash[p];
                leanX[p] = other.leanX[p];
                leanY[p] = other.leanY[p];
            }
        }

        boolean hasMan(int m) {
            return m >= 0 && m < men && m < MEN_MOST;
        }

        boolean hasPromise(int p) {
            return p >= 0 && p < promises && p < PROMISES_MOST;
        }

        boolean hasCell(int x, int y) {
            return x >= 0 && x < wide && y >= 0 && y < high;
        }

        /** A cell as one bit of a long: rows of eight, whatever the land's width. */
        static long cellBit(int x, int y) {
            return 1L << (y * SIDE_MOST + x);
        }

        long allCells() {
            long cells = 0L;
            for (int y = 0; y < high; y++) {
                for (int x = 0; x < wide; x++) {
                    cells |= cellBit(x, y);
                }
            }
            return cells;
        }

        int manNamed(long name) {
            for (int m = 0; m < men; m++) {
                if (manNames[m] == name) {
                    return m;
                }
            }
            return NONE;
        }

        int promiseNamed(long name) {
            for (int p = 0; p < promises; p++) {
                if (promiseNames[p] == name) {
                    return p;
                }
            }
            return NONE;
        }

        /** The promise whose tree was planted there, whatever has become of it. */
        int treeIn(int x, int y) {
            for (int p = 0; p < promises; p++) {
                if (treeX[p] == x && treeY[p] == y) {
                    return p;
                }
            }
            return NONE;
        }

        int givenBy(int m) {
            int words = 0;
            for (int p = 0; p < promises; p++) {
                if (giver[p] == m) {
                    words |= 1 << p;
                }
            }
            return words;
        }

        int givenTo(int m) {
            int words = 0;
            for (int p = 0; p < promises; p++) {
                if (taker[p] == m) {
                    words |= 1 << p;
                }
            }
            return words;
        }

        void setLean(int p) {
            int awayX = doorX[taker[p]] - treeX[p];
            int awayY = doorY[taker[p]] - treeY[p];
            boolean alongX = Math.abs(awayX) >= Math.abs(awayY);
            leanX[p] = alongX ? stepTo(awayX) : 0;
            leanY[p] = alongX ? 0 : stepTo(awayY);
        }

        private static int stepTo(int away) {
            return away < 0 ? -1 : 1;
        }
    }

    /** Reads a headland from the tokens into a draft. */
    private static final class LandReader {
        final Tokens tokens;
        final Land draft = new Land();
        int lines;
        private boolean sized;
        private boolean grown;
        private boolean stormy;
        // cells with a door or a tree
        private long taken;
        // the latest cell, and the latest man or promise, that was read
        private int x;
        private int y;
        private int found;

        LandReader(Tokens tokens) {
            this.tokens = tokens;
        }

        boolean reads() {
            draft.clear();
            sized = false;
            grown = false;
            stormy = false;
            taken = 0L;
            lines = 0;
            for (int k = 0; k <= HEADLAND_BYTES; k++) {
                tokens.advance();
                if (tokens.kind == Tokens.END) {
                    return true;
                }
                if (!readLine() || !tokens.takeLineEnd()) {
                    return false;
                }
                lines++;
            }
            return tokens.fail(Tokens.UNFIT);
        }

        private boolean readLine() {
            switch (tokens.kind) {
                case Tokens.LAND: return readSize();
                case Tokens.MAN: return readMan();
                case Tokens.PROMISE: return readPromise();
                case Tokens.CLASH: return readClash();
                case Tokens.GROWS: return readGrows();
                case Tokens.STORM: return readStorm();
                default: return tokens.fail(Tokens.UNFIT);
            }
        }

        private boolean readSize() {
            if (sized || taken != 0L) {
                return tokens.fail(Tokens.NAMING);
            }
            sized = true;
            if (!tokens.takeNumber(2, SIDE_MOST)) {
                return false;
            }
            draft.wide = tokens.number();
            if (!tokens.takeNumber(2, SIDE_MOST)) {
                return false;
            }
            draft.high = tokens.number();
            return true;
        }

        private boolean readMan() {
            int m = draft.men;
            if (m >= MEN_MOST) {
                return tokens.fail(Tokens.SURPLUS);
            }
            if (!readNewName()) {
                return false;
            }
            draft.manNames[m] = tokens.name();
            if (!readCell()) {
                return false;
            }
            draft.doorX[m] = x;
            draft.doorY[m] = y;
            draft.men = m + 1;
            return true;
        }

        private boolean readPromise() {
            int p = draft.promises;
            if (p >= PROMISES_MOST) {
                return tokens.fail(Tokens.SURPLUS);
            }
            if (!readNewName()) {
                return false;
            }
            draft.promiseNames[p] = tokens.name();
            if (!readToldMan()) {
                return false;
            }
            draft.giver[p] = found;
            if (!readToldMan()) {
                return false;
            }
            draft.taker[p] = found;
            if (found == draft.giver[p]) {
                return tokens.fail(Tokens.NAMING);
            }
            if (!readCell()) {
                return false;
            }
            draft.treeX[p] = x;
            draft.treeY[p] = y;
            if (!tokens.takeNumber(0, 60)) {
                return false;
            }
            draft.planted[p] = tokens.number();
            if (!tokens.takeNumber(0, DAYS_ALL - 1)) {
                return false;
            }
            draft.till[p] = tokens.number();
            draft.setLean(p);
            draft.promises = p + 1;
            return true;
        }

        private boolean readClash() {
            if (draft.clashes >= CLASHES_MOST) {
                return tokens.fail(Tokens.SURPLUS);
            }
            if (!readToldPromise()) {
                return false;
            }
            int p = found;
            if (!readToldPromise()) {
                return false;
            }
            int q = found;
            if (p == q || (draft.clash[p] & (1 << q)) != 0) {
                return tokens.fail(Tokens.NAMING);
            }
            draft.clash[p] |= 1 << q;
            draft.clash[q] |= 1 << p;
            draft.clashes++;
            return true;
        }

        private boolean readGrows() {
            if (grown) {
                return tokens.fail(Tokens.NAMING);
            }
            grown = true;
            if (!tokens.takeNumber(0, 9)) {
                return false;
            }
            draft.grows = tokens.number();
            return true;
        }

        private boolean readStorm() {
            if (stormy) {
                return tokens.fail(Tokens.NAMING);
            }
            stormy = true;
            if (!tokens.takeNumber(0, 12)) {
                return false;
            }
            draft.storm = tokens.number();
            return true;
        }

        private boolean readNewName() {
            if (!tokens.takeName()) {
                return false;
            }
            boolean isNew = draft.manNamed(tokens.name()) == NONE && draft.promiseNamed(tokens.name()) == NONE;
            return isNew || tokens.fail(Tokens.NAMING);
        }

        private boolean readToldMan() {
            if (!tokens.takeName()) {
                return false;
            }
            found = draft.manNamed(tokens.name());
            return found != NONE || tokens.fail(Tokens.NAMING);
        }

        private boolean readToldPromise() {
            if (!tokens.takeName()) {
                return false;
            }
            found = draft.promiseNamed(tokens.name());
            return found != NONE || tokens.fail(Tokens.NAMING);
        }

        private boolean readCell() {
            if (!tokens.takeNumber(0, draft.wide - 1)) {
                return false;
            }
            x = tokens.number();
            if (!tokens.takeNumber(0, draft.high - 1)) {
                return false;
            }
            y = tokens.number();
            long bit = Land.cellBit(x, y);
            if ((taken & bit) != 0L) {
                return tokens.fail(Tokens.NAMING);
            }
            taken |= bit;
            return true;
        }
    }

    /** How all is on the land: what acts and days change. */
    private static final class World {
        static final int STANDS = 0;
        static final int KEPT = 1;
        static final int FELL = 2;
        static final int STUMP = 3;

        static final int TO_KEEP = 0;
        static final int TO_BREAK = 1;
        static final int TO_FREE = 2;
        static final int TO_WATER = 3;

        // the first and the last column of all rows of eight
        static final long WEST = 0x0101010101010101L;
        static final long EAST = 0x8080808080808080L;

        final Land land;
        final int[] tall = new int[PROMISES_MOST];
        final int[] state = new int[PROMISES_MOST];
        final int[] wateredOn = new int[PROMISES_MOST];
        final int[] keptSoFar = new int[MEN_MOST];
        final int[] keptOn = new int[MEN_MOST];
        long shut = 0L;
        int day = 0;
        // used within one call alone: trees in the order in which they are struck, and the latest draw
        private final int[] struck = new int[PROMISES_MOST];
        private int drawState = 0;

        World(Land land) {
            this.land = land;
        }

        void begin() {
            for (int p = 0; p < PROMISES_MOST; p++) {
                tall[p] = land.planted[p];
                state[p] = STANDS;
                wateredOn[p] = NONE;
            }
            for (int m = 0; m < MEN_MOST; m++) {
                keptSoFar[m] = 0;
                keptOn[m] = NONE;
            }
            shut = 0L;
            day = 0;
        }

        void copyFrom(World other) {
            for (int p = 0; p < PROMISES_MOST; p++) {
                tall[p] = other.tall[p];
                state[p] = other.state[p];
                wateredOn[p] = other.wateredOn[p];
            }
            for (int m = 0; m < MEN_MOST; m++) {
                keptSoFar[m] = other.keptSoFar[m];
                keptOn[m] = other.keptOn[m];
            }
            shut = other.shut;
            day = other.day;
        }

        int bits(int wanted) {
            int those = 0;
            for (int p = 0; p < land.promises; p++) {
                if (state[p] == wanted) {
                    those |= 1 << p;
                }
            }
            return those;
        }

        int uprightBits() {
            return bits(STANDS) | bits(KEPT);
        }

        boolean isUpright(int p) {
            return state[p] == STANDS || state[p] == KEPT;
        }

        int tallOf(int those) {
            int sum = 0;
            for (int p = 0; p < land.promises; p++) {
                if ((those & (1 << p)) != 0) {
                    sum += tall[p];
                }
            }
            return sum;
        }

        boolean isShut(int x, int y) {
            return (shut & Land.cellBit(x, y)) != 0L;
        }

        int thingIn(int x, int y) {
            for (int m = 0; m < land.men; m++) {
                if (land.doorX[m] == x && land.doorY[m] == y) {
                    return 40 + m;
                }
            }
            int p = land.treeIn(x, y);
            if (p == NONE || state[p] == FELL) {
                return 60;
            }
            return state[p] == STUMP ? 20 + p : p;
        }

        // ---- shade ----

        /** The trees that shade what is so tall in a cell, as bits. */
        private int shadersOf(int x, int y, int height) {
            int those = 0;
            for (int p = 0; p < land.promises; p++) {
                int away = land.treeY[p] - y;
                if (land.treeX[p] == x && away > 0 && isUpright(p) && tall[p] - height >= 5 * away) {
                    those |= 1 << p;
                }
            }
            return those;
        }

        /** What does not stand upright is shaded by none. */
        private int shadersOfTree(int q) {
            return isUpright(q) ? shadersOf(land.treeX[q], land.treeY[q], tall[q]) : 0;
        }

        boolean isShaded(int q) {
            return shadersOfTree(q) != 0;
        }

        int shadedBits() {
            int those = 0;
            for (int q = 0; q < land.promises; q++) {
                if (isShaded(q)) {
                    those |= 1 << q;
                }
            }
            return those;
        }

        int shadeOf(int p) {
            int those = 0;
            for (int q = 0; q < land.promises; q++) {
                if ((shadersOfTree(q) & (1 << p)) != 0) {
                    those |= 1 << q;
                }
            }
            return those;
        }

        boolean isLight(int x, int y) {
            return thingIn(x, y) == 60 && !isShut(x, y) && shadersOf(x, y, 0) == 0;
        }

        // ---- acts ----

        int whyNot(int deed, int p) {
            if (state[p] != STANDS) {
                return 1;
            }
            if (deed == TO_KEEP) {
                if ((land.clash[p] & bits(KEPT)) != 0) {
                    return 2;
                }
                return keptOn[land.giver[p]] == day ? 3 : 0;
            }
            return deed == TO_WATER && wateredOn[p] == day ? 2 : 0;
        }

        void carryOut(int deed, int p) {
            switch (deed) {
                case TO_KEEP:
                    state[p] = KEPT;
                    keptOn[land.giver[p]] = day;
                    keptSoFar[land.giver[p]]++;
                    break;
                case TO_BREAK:
                    fall(p);
                    break;
                case TO_FREE:
                    state[p] = STUMP;
                    break;
                default:
                    wateredOn[p] = day;
                    tall[p] = Math.min(TALLEST, tall[p] + 5);
                    break;
            }
        }

        /** Does it, if it can be done: 0, or why not. */
        int tryTo(int deed, int p) {
            int why = whyNot(deed, p);
            if (why == 0) {
                carryOut(deed, p);
            }
            return why;
        }

        void fall(int p) {
            state[p] = FELL;
            struck[0] = p;
            int many = 1;
            for (int k = 0; k < many && k < PROMISES_MOST; k++) {
                many = layDown(struck[k], many);
            }
        }

        /** Lays a trunk; the trees that it strikes come behind those struck so far: how many there are then. */
        private int layDown(int p, int many) {
            int x = land.treeX[p];
            int y = land.treeY[p];
            int length = 1 + tall[p] / 10;
            for (int k = 0; k < length; k++) {
                x += land.leanX[p];
                y += land.leanY[p];
                if (!land.hasCell(x, y)) {
                    break;
                }
                shut |= Land.cellBit(x, y);
                int q = land.treeIn(x, y);
                if (q != NONE && isUpright(q) && tall[q] < tall[p] && many < PROMISES_MOST) {
                    state[q] = FELL;
                    struck[many] = q;
                    many++;
                }
            }
            return many;
        }

        // ---- days ----

        int daysLeft() {
            return DAYS_ALL - day;
        }

        void passDay() {
            grow();
            for (int p = 0; p < land.promises; p++) {
                if (state[p] == STANDS && land.till[p] <= day) {
                    fall(p);
                }
            }
            day++;
        }

        private void grow() {
            int lit = 0;
            for (int p = 0; p < land.promises; p++) {
                if (state[p] == STANDS && shadersOf(land.treeX[p], land.treeY[p], tall[p]) == 0) {
                    lit |= 1 << p;
                }
            }
            for (int p = 0; p < land.promises; p++) {
                if ((lit & (1 << p)) != 0) {
                    tall[p] = Math.min(TALLEST, tall[p] + land.grows);
                }
            }
        }

        int passDays(int n) {
            int gone = Math.min(n, daysLeft());
            for (int k = 0; k < gone; k++) {
                passDay();
            }
            return gone;
        }

        int passDrawnDays(int n, int seed) {
            int gone = Math.min(n, daysLeft());
            drawState = seed;
            for (int k = 0; k < gone; k++) {
                drawStorm();
                drawActs();
                passDay();
            }
            return gone;
        }

        private void drawStorm() {
            if (draw(12) >= land.storm) {
                return;
            }
            int p = draw(land.promises);
            if (land.hasPromise(p) && state[p] == STANDS && tall[p] >= 10) {
                fall(p);
            }
        }

        private void drawActs() {
            for (int p = 0; p < land.promises; p++) {
                switch (draw(10)) {
                    case 0: tryTo(TO_KEEP, p); break;
                    case 1: tryTo(TO_FREE, p); break;
                    case 2: tryTo(TO_WATER, p); break;
                    default: break;
                }
            }
        }

        private int draw(int n) {
            drawState = drawState * 1103515245 + 12345;
            return n > 0 ? (drawState >>> 8) % n : 0;
        }

        // ---- ways ----

        private long uprightCells() {
            long cells = 0L;
            for (int p = 0; p < land.promises; p++) {
                if (isUpright(p)) {
                    cells |= Land.cellBit(land.treeX[p], land.treeY[p]);
                }
            }
            return cells;
        }

        int stepsBetween(int m, int o) {
            long start = Land.cellBit(land.doorX[m], land.doorY[m]);
            long goal = Land.cellBit(land.doorX[o], land.doorY[o]);
            long open = (land.allCells() & ~(shut | uprightCells())) | start | goal;
            long reached = start;
            for (int steps = 0; steps < SIDE_MOST * SIDE_MOST; steps++) {
                if ((reached & goal) != 0L) {
                    return steps;
                }
                reached |= nextTo(reached) & open;
            }
            return NONE;
        }

        private static long nextTo(long cells) {
            return (cells << SIDE_MOST) | (cells >>> SIDE_MOST) | ((cells & ~EAST) << 1) | ((cells & ~WEST) >>> 1);
        }
    }

    /** The worlds ahead of the latest acts. */
    private static final class Past {
        static final int KEPT_MOST = 8;

        final World[] worlds = new World[KEPT_MOST];
        private int newest = 0;
        private int many = 0;

        Past(Land land) {
            for (int k = 0; k < KEPT_MOST; k++) {
                worlds[k] = new World(land);
            }
        }

        void forget() {
            many = 0;
        }

        void remember(World world) {
            newest = (newest + 1) % KEPT_MOST;
            worlds[newest].copyFrom(world);
            many = Math.min(KEPT_MOST, many + 1);
        }

        /** How many more can be taken back; NONE, if none was. */
        int takeBack(World world) {
            if (many == 0) {
                return NONE;
            }
            world.copyFrom(worlds[newest]);
            newest = (newest + KEPT_MOST - 1) % KEPT_MOST;
            many--;
            return many;
        }
    }

    /** What is counted out of a world, and what was told of it last. */
    private static final class Reckoning {
        static final int PRICE_AT_FIRST = 10;
        static final int ROUNDS_MOST = 60;

        final Land land;
        int chosenBits = NONE;
        final int[] ringWords = new int[MEN_MOST];
        int ringLength = 0;
        int sureBits = NONE;
        int askedMan = NONE;
        int latestPrice = NONE;
        // used within one call alone
        private final int[] draftWords = new int[MEN_MOST];

        Reckoning(Land land) {
            this.land = land;
        }

        // ---- the most words ----

        int chooseMost(World world) {
            int open = openWords(world);
            int best = 0;
            chosenBits = 0;
            for (int set = 1; set < (1 << land.promises); set++) {
                if ((set & ~open) == 0 && Integer.bitCount(set) > best && canAllBeKept(world, set)) {
                    best = Integer.bitCount(set);
                    chosenBits = set;
                }
            }
            return best;
        }

        private int openWords(World world) {
            int kept = world.bits(World.KEPT);
            int open = 0;
            for (int p = 0; p < land.promises; p++) {
                if (world.state[p] == World.STANDS && (land.clash[p] & kept) == 0) {
                    open |= 1 << p;
                }
            }
            return open;
        }

        private boolean canAllBeKept(World world, int set) {
            for (int p = 0; p < land.promises; p++) {
                if ((set & (1 << p)) != 0 && ((land.clash[p] & set) != 0 || !hasTime(world, set, p))) {
                    return false;
                }
            }
            return true;
        }

        /** Whether the man has a day for each of his words that can't be kept later than this one. */
        private boolean hasTime(World world, int set, int p) {
            int m = land.giver[p];
            int begins = world.keptOn[m] == world.day ? world.day + 1 : world.day;
            int words = 0;
            for (int q = 0; q < land.promises; q++) {
                if ((set & (1 << q)) != 0 && land.giver[q] == m && land.till[q] <= land.till[p]) {
                    words++;
                }
            }
            return words <= land.till[p] - begins + 1;
        }

        // ---- the shortest ring ----

        /** A shortest ring goes by each man once, so it has no more words than there are men. */
        int findRing(World world) {
            int open = world.bits(World.STANDS);
            for (int length = 2; length <= land.men && length <= MEN_MOST; length++) {
                for (int p = 0; p < land.promises; p++) {
                    draftWords[0] = p;
                    if ((open & (1 << p)) != 0 && closesRing(open, 1, length)) {
                        ringLength = length;
                        for (int k = 0; k < length; k++) {
                            ringWords[k] = draftWords[k];
                        }
                        return length;
                    }
                }
            }
            return NONE;
        }

        private boolean closesRing(int open, int depth, int length) {
            int at = land.taker[draftWords[depth - 1]];
            if (depth >= length || depth >= MEN_MOST) {
                return at == land.giver[draftWords[0]];
            }
            for (int q = 0; q < land.promises; q++) {
                if ((open & (1 << q)) != 0 && land.giver[q] == at) {
                    draftWords[depth] = q;
                    if (closesRing(open, depth + 1, length)) {
                        return true;
                    }
                }
            }
            return false;
        }

        // ---- what is sworn ----

        int countSworn(Tape tape) {
            if (tape.length != land.men || land.men == 0) {
                return NONE;
            }
            int sets = 1;
            int sure = 0;
            int asked = 0;
            int mostWays = 0;
            for (int m = 0; m < land.men; m++) {
                int given = land.givenBy(m);
                int all = Integer.bitCount(given);
                int standing = tape.byteAt(m);
                int ways = waysToChoose(all, standing);
                sets *= ways;
                if (standing == all) {
                    sure |= given;
                }
                if (ways > mostWays) {
                    mostWays = ways;
                    asked = m;
                }
            }
            if (sets > 0) {
                sureBits = sure;
                askedMan = asked;
            }
            return sets;
        }

        private static int waysToChoose(int all, int some) {
            if (some > all) {
                return 0;
            }
            int ways = 1;
            for (int k = 1; k <= some; k++) {
                ways = ways * (all - some + k) / k;
            }
            return ways;
        }

        // ---- water and firewood ----

        int shareOf(World world, int water, int p) {
            int thirst = 0;
            for (int q = 0; q < land.promises; q++) {
                thirst += thirstOf(world, q);
            }
            if (thirst == 0) {
                return 0;
            }
            int left = water;
            int ahead = 0;
            int rest = water * thirstOf(world, p) % thirst;
            for (int q = 0; q < land.promises; q++) {
                int parts = water * thirstOf(world, q);
                left -= parts / thirst;
                boolean comesFirst = parts % thirst > rest || parts % thirst == rest && q < p;
                if (world.state[q] == World.STANDS && comesFirst) {
                    ahead++;
                }
            }
            return water * thirstOf(world, p) / thirst + (ahead < left ? 1 : 0);
        }

        private static int thirstOf(World world, int p) {
            return world.state[p] == World.STANDS ? TALLEST - world.tall[p] : 0;
        }

        int findPrice(int wood) {
            int price = PRICE_AT_FIRST;
            int rounds = 0;
            boolean rests = false;
            while (rounds < ROUNDS_MOST && !rests) {
                int next = price;
                if (price * land.men < wood) {
                    next = price + 1;
                } else if (price * land.men > wood) {
                    next = Math.max(0, price - 1);
                }
                rests = next == price;
                price = next;
                rounds++;
            }
            latestPrice = price;
            return rounds;
        }
    }

    /** The lines of the latest book, and what was told of the latest one that had no fault. */
    private static final class Book {
        static final int DAYS_PASS = 4;
        static final int TOO_FEW_DAYS = 41;

        final Tokens tokens;
        final Land land;
        // a deed of the world with its promise, or DAYS_PASS with how many
        private final int[] deeds = new int[BOOK_LINES];
        private final int[] whose = new int[BOOK_LINES];
        private int lines = 0;
        private boolean judged = false;
        private int why = 0;
        private int fine = 0;
        private int dayThen = 0;
        private int fellThen = 0;

        Book(Tokens tokens, Land land) {
            this.tokens = tokens;
            this.land = land;
        }

        boolean reads() {
            lines = 0;
            for (int k = 0; k <= BOOK_LINES; k++) {
                tokens.advance();
                if (tokens.kind == Tokens.END) {
                    return true;
                }
                if (!readLine() || !tokens.takeLineEnd()) {
                    return false;
                }
                lines++;
            }
            return tokens.fail(Tokens.UNFIT);
        }

        private boolean readLine() {
            if (tokens.kind == Tokens.DAY) {
                return readDays();
            }
            return tokens.kind == Tokens.NAME ? readDeed() : tokens.fail(Tokens.UNFIT);
        }

        private boolean readDays() {
            if (lines >= BOOK_LINES) {
                return tokens.fail(Tokens.SURPLUS);
            }
            if (!tokens.takeNumber(1, DAYS_AT_ONCE)) {
                return false;
            }
            deeds[lines] = DAYS_PASS;
            whose[lines] = tokens.number();
            return true;
        }

        private boolean readDeed() {
            int p = land.promiseNamed(tokens.name());
            if (p == NONE) {
                return tokens.fail(Tokens.NAMING);
            }
            if (lines >= BOOK_LINES) {
                return tokens.fail(Tokens.SURPLUS);
            }
            tokens.advance();
            int deed = deedOf(tokens.kind);
            if (deed == NONE) {
                return tokens.fail(Tokens.UNFIT);
            }
            deeds[lines] = deed;
            whose[lines] = p;
            return true;
        }

        private static int deedOf(int kind) {
            switch (kind) {
                case Tokens.KEPT: return World.TO_KEEP;
                case Tokens.BROKEN: return World.TO_BREAK;
                case Tokens.FREED: return World.TO_FREE;
                case Tokens.WATERED: return World.TO_WATER;
                default: return NONE;
            }
        }

        /** The line that is wrong, or NONE. */
        int liveIn(World world) {
            why = 0;
            fine = 0;
            for (int k = 0; k < lines && k < BOOK_LINES && why == 0; k++) {
                if (deeds[k] != DAYS_PASS) {
                    int reason = world.tryTo(deeds[k], whose[k]);
                    why = reason == 0 ? 0 : 10 * deeds[k] + reason;
                } else if (whose[k] > world.daysLeft()) {
                    why = TOO_FEW_DAYS;
                } else {
                    world.passDays(whose[k]);
                }
                fine = why == 0 ? k + 1 : k;
            }
            judged = true;
            dayThen = world.day;
            fellThen = world.bits(World.FELL);
            return why == 0 ? NONE : fine;
        }

        int toldOf(int what) {
            if (!judged) {
                return NONE;
            }
            switch (what) {
                case 0: return why;
                case 1: return fine;
                case 2: return dayThen;
                case 3: return fellThen;
                default: return NONE;
            }
        }
    }

    /** A sentence as steps over sets of promises, each behind what it is said of. */
    private static final class Sentence {
        static final int STEPS_MOST = 48;

        final int[] steps = new int[STEPS_MOST];
        final int[] signs = new int[STEPS_MOST];
        final int[] values = new int[STEPS_MOST];
        int length = 0;
        // used within one call alone
        private final int[] sets = new int[STEPS_MOST];

        void forget() {
            length = 0;
        }

        boolean isThere() {
            return length > 0;
        }

        void copyFrom(Sentence other) {
            length = other.length;
            for (int k = 0; k < STEPS_MOST; k++) {
                steps[k] = other.steps[k];
                signs[k] = other.signs[k];
                values[k] = other.values[k];
            }
        }

        void addStep(int step, int sign, int value) {
            if (length < STEPS_MOST) {
                steps[length] = step;
                signs[length] = sign;
                values[length] = value;
                length++;
            }
        }

        /** The promises of which it may be said, as bits. */
        int saidOf(World world) {
            int high = 0;
            for (int k = 0; k < length && k < STEPS_MOST; k++) {
                if (steps[k] == Tokens.NOT) {
                    high = negate(high);
                } else if (steps[k] == Tokens.AND || steps[k] == Tokens.OR) {
                    high = join(high, steps[k] == Tokens.AND);
                } else if (high < STEPS_MOST) {
                    sets[high] = plainlySaid(world, k);
                    high++;
                }
            }
            int all = (1 << world.land.promises) - 1;
            return high > 0 ? sets[high - 1] & all : 0;
        }

        private int negate(int high) {
            if (high > 0) {
                sets[high - 1] = ~sets[high - 1];
            }
            return high;
        }

        private int join(int high, boolean both) {
            if (high < 2) {
                return high;
            }
            int left = sets[high - 2];
            int right = sets[high - 1];
            sets[high - 2] = both ? left & right : left | right;
            return high - 1;
        }

        private int plainlySaid(World world, int k) {
            switch (steps[k]) {
                case Tokens.STANDS: return world.bits(World.STANDS);
                case Tokens.KEPT: return world.bits(World.KEPT);
                case Tokens.FELL: return world.bits(World.FELL);
                case Tokens.STUMP: return world.bits(World.STUMP);
                case Tokens.SHADED: return world.shadedBits();
                case Tokens.BY: return world.land.givenBy(values[k]);
                case Tokens.TO: return world.land.givenTo(values[k]);
                default: return measured(world, k);
            }
        }

        private int measured(World world, int k) {
            int those = 0;
            for (int p = 0; p < world.land.promises; p++) {
                if (holdsOf(world, k, p)) {
                    those |= 1 << p;
                }
            }
            return those;
        }

        private boolean holdsOf(World world, int k, int p) {
            switch (steps[k]) {
                case Tokens.TALL: return compares(world.tall[p], signs[k], values[k]);
                case Tokens.TILL: return compares(world.land.till[p], signs[k], values[k]);
                default: return compares(p, signs[k], values[k]);
            }
        }

        private static boolean compares(int value, int sign, int other) {
            if (sign == '<') {
                return value < other;
            }
            return sign == '=' ? value == other : value > other;
        }
    }

    /** Reads a sentence from the tokens into a draft; each method begins at its first token and ends behind its last. */
    private static final class SentenceReader {
        static final int ONES_MOST = 20;
        static final int DEEPEST = 8;

        final Tokens tokens;
        final Land land;
        final Sentence draft = new Sentence();
        int ones;

        SentenceReader(Tokens tokens, Land land) {
            this.tokens = tokens;
            this.land = land;
        }

        boolean reads() {
            draft.forget();
            ones = 0;
            tokens.advance();
            if (!readCond(1)) {
                return false;
            }
            return tokens.kind == Tokens.END || tokens.fail(Tokens.UNFIT);
        }

        private boolean readCond(int depth) {
            if (!readAll(depth)) {
                return false;
            }
            for (int k = 0; k < ONES_MOST && tokens.kind == Tokens.OR; k++) {
                tokens.advance();
                if (!readAll(depth)) {
                    return false;
                }
                draft.addStep(Tokens.OR, 0, 0);
            }
            return true;
        }

        private boolean readAll(int depth) {
            if (!readOne(depth)) {
                return false;
            }
            for (int k = 0; k < ONES_MOST && tokens.kind == Tokens.AND; k++) {
                tokens.advance();
                if (!readOne(depth)) {
                    return false;
                }
                draft.addStep(Tokens.AND, 0, 0);
            }
            return true;
        }

        private boolean readOne(int depth) {
            if (!beginsOne(tokens.kind)) {
                return tokens.fail(Tokens.UNFIT);
            }
            if (ones >= ONES_MOST || depth > DEEPEST) {
                return tokens.fail(Tokens.SURPLUS);
            }
            ones++;
            switch (tokens.kind) {
                case '(': return readBracket(depth);
                case Tokens.NOT: return readNot(depth);
                case Tokens.BY:
                case Tokens.TO: return readMan(tokens.kind);
                case Tokens.TALL:
                case Tokens.TILL:
                case Tokens.NUMBERED: return readMeasure(tokens.kind);
                default: return readState(tokens.kind);
            }
        }

        private static boolean beginsOne(int kind) {
            return kind == '(' || kind >= Tokens.KEPT && kind <= Tokens.NUMBERED;
        }

        private boolean readBracket(int depth) {
            tokens.advance();
            if (!readCond(depth + 1)) {
                return false;
            }
            if (tokens.kind != ')') {
                return tokens.fail(Tokens.UNFIT);
            }
            tokens.advance();
            return true;
        }

        private boolean readNot(int depth) {
            tokens.advance();
            if (!readOne(depth + 1)) {
                return false;
            }
            draft.addStep(Tokens.NOT, 0, 0);
            return true;
        }

        private boolean readState(int step) {
            draft.addStep(step, 0, 0);
            tokens.advance();
            return true;
        }

        private boolean readMan(int step) {
            if (!tokens.takeName()) {
                return false;
            }
            int m = land.manNamed(tokens.name());
            if (m == NONE) {
                return tokens.fail(Tokens.NAMING);
            }
            draft.addStep(step, 0, m);
            tokens.advance();
            return true;
        }

        private boolean readMeasure(int step) {
            tokens.advance();
            int sign = tokens.kind;
            if (sign != '<' && sign != '=' && sign != '>') {
                return tokens.fail(Tokens.UNFIT);
            }
            if (!tokens.takeNumber(0, 999)) {
                return false;
            }
            draft.addStep(step, sign, tokens.number());
            tokens.advance();
            return true;
        }
    }
}
