/** All that can be asked of an object without changing it, and calls that must leave all of it as it was. */
final class Whole {
    /** What the harness answers for a call that throws a NoSuchElementException. */
    static final int THROWS = -77;

    private static final int NONE = PromiseTrees.NONE;
    private static final String LAND = "land 5 4;man ann 0 0;man bob 4 0;man cid 0 3;promise oak ann bob 1 1 20 30;"
        + "promise elm bob cid 3 1 15 30;promise ash cid ann 2 2 30 40;promise fir ann cid 4 3 8 50;"
        + "promise yew ann bob 2 0 12 60;promise box bob ann 3 3 5 70;clash oak fir;grows 2;storm 3;";

    /** A call that a test makes on an object of its own. */
    interface Call {
        int on(PromiseTrees x);
    }

    private Whole() {
    }

    /** Its answers in one text; some 170 calls on the lived() headland. */
    static String of(PromiseTrees x) {
        StringBuilder all = new StringBuilder();
        for (int what = 0; what < 8; what++) {
            all.append(x.count(what)).append(' ').append(x.now(what)).append(' ');
        }
        all.append("\npromises");
        for (int p = 0; p < x.count(1); p++) {
            for (int what = 0; what < 9; what++) {
                all.append(' ').append(x.promise(p, what));
            }
        }
        all.append("\nmen");
        for (int m = 0; m < x.count(0); m++) {
            for (int what = 0; what < 6; what++) {
                all.append(' ').append(x.man(m, what));
            }
        }
        all.append("\ncells");
        int wide = x.count(2);
        int high = x.count(3);
        for (int y = 0; y < high; y++) {
            for (int c = 0; c < wide; c++) {
                all.append(' ').append(x.cell(c, y));
            }
        }
        return all.append(toldLast(x)).toString();
    }

    /** What calls told last, and the sentence. */
    static String toldLast(PromiseTrees x) {
        StringBuilder all = new StringBuilder("\ntold last");
        for (int k = 0; k < 3; k++) {
            all.append(' ').append(x.ringAt(k));
        }
        for (int what = 0; what < 4; what++) {
            all.append(' ').append(x.told(what));
        }
        all.append(' ').append(x.fault()).append(' ').append(x.chosen()).append(' ').append(x.surely()).append(' ')
            .append(x.ask()).append(' ').append(x.price());
        return all.append("\nsaid ").append(x.said(NONE)).append(' ').append(x.said(0)).toString();
    }

    /**
     * Day 2: oak is kept (today), ash fell, box is a stump, elm (watered today), fir and yew stand; five acts can be
     * undone; the image in place 0 is of day 0; the tape has two bytes.
     */
    static PromiseTrees lived() {
        PromiseTrees x = Check.on(LAND);
        Check.sentence(x, "to bob");
        x.image(0);
        x.most();
        x.ring();
        Check.sworn(x, 2, 1, 1);
        Check.book(x, "day 9;", 0);
        x.free(5);
        x.days(2);
        x.keep(0);
        x.breaks(2);
        x.water(1);
        x.rounds();
        Check.sentence(x, "tall < 1000");
        Check.put(x, "ab");
        return x;
    }

    static void same(String what, String now, String before) {
        Check.due(what + ": all is as before\n" + now + "\nbefore:\n" + before + "\n", now.equals(before), true);
    }

    /** The call answers as due and changes nothing, what can be undone and the images among it. */
    static void refused(String what, int due, Call call) {
        unchanged(what, due, call, Whole::lived);
    }

    /** Makes objects that are all alike. */
    interface Maker {
        PromiseTrees make();
    }

    static void unchanged(String what, int due, Call call, Maker maker) {
        PromiseTrees x = maker.make();
        String before = of(x);
        Check.due(what, call.on(x), due);
        same(what, of(x), before);
        PromiseTrees y = maker.make();
        PromiseTrees z = maker.make();
        call.on(y);
        for (int k = 0; k < 9; k++) {
            Check.due(what + ": what can be undone stays", y.undo(), z.undo());
        }
        same(what + ", all undone", of(y), of(z));
        for (int k = 0; k < 2; k++) {
            Check.due(what + ": images stay", y.restore(k), z.restore(k));
        }
        Check.due(what + ": the land of the image", y.count(1), z.count(1));
        Check.due(what + ": its day", y.now(0), z.now(0));
    }

    static int promise(PromiseTrees x, int p, int what) {
        return Check.throwsForPromise(x, p, what) ? THROWS : x.promise(p, what);
    }

    static int man(PromiseTrees x, int m, int what) {
        return Check.throwsForMan(x, m, what) ? THROWS : x.man(m, what);
    }
}
