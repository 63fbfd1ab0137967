import java.util.ArrayDeque;
import java.util.ArrayList;
import java.util.Arrays;
import java.util.Deque;
import java.util.HashSet;
import java.util.List;
import java.util.NoSuchElementException;
import java.util.Set;
import java.util.TreeSet;
import java.util.function.IntPredicate;

/** A second reading of the document, as plain as can be and with the whole library; found by name in ModelTest. */
final class Model {
    enum Is { STANDS, KEPT, FELL, STUMP }

    static final Set<String> TOLD_WORDS = Set.of("land", "man", "promise", "clash", "grows", "storm", "kept", "broken",
        "freed", "watered", "day", "or", "and", "not", "stands", "fell", "stump", "shaded", "by", "to", "tall", "till",
        "number");

    static final class Man {
        String name;
        int x;
        int y;
        int kept;
        int keptOn = -1;

        Man copy() {
            Man m = new Man();
            m.name = name;
            m.x = x;
            m.y = y;
            m.kept = kept;
            m.keptOn = keptOn;
            return m;
        }
    }

    static final class Tree {
        String name;
        int by;
        int to;
        int x;
        int y;
        int tall;
        int till;
        Is is = Is.STANDS;
        int watered = -1;

        Tree copy() {
            Tree t = new Tree();
            t.name = name;
            t.by = by;
            t.to = to;
            t.x = x;
            t.y = y;
            t.tall = tall;
            t.till = till;
            t.is = is;
            t.watered = watered;
            return t;
        }

        boolean up() {
            return is == Is.STANDS || is == Is.KEPT;
        }
    }

    /** A headland with all that is so. */
    static final class Place {
        int wide = 4;
        int high = 4;
        int grows = 1;
        int storm = 1;
        int day;
        List<Man> men = new ArrayList<>();
        List<Tree> trees = new ArrayList<>();
        List<Set<Integer>> clashes = new ArrayList<>();
        Set<List<Integer>> shut = new HashSet<>();

        Place copy() {
            Place p = new Place();
            p.wide = wide;
            p.high = high;
            p.grows = grows;
            p.storm = storm;
            p.day = day;
            men.forEach(m -> p.men.add(m.copy()));
            trees.forEach(t -> p.trees.add(t.copy()));
            p.clashes.addAll(clashes);
            p.shut.addAll(shut);
            return p;
        }

        boolean land(int x, int y) {
            return x >= 0 && y >= 0 && x < wide && y < high;
        }

        int bits(Is is) {
            return mask(i -> trees.get(i).is == is);
        }

        int mask(IntPredicate which) {
            int m = 0;
            for (int i = 0; i < trees.size(); i++) {
                if (which.test(i)) {
                    m += 1 << i;
                }
            }
            return m;
        }

        boolean clash(int p, int q) {
            return clashes.contains(Set.of(p, q));
        }

        boolean shades(Tree t, int x, int y, int tall) {
            if (!t.up() || t.x != x || t.y <= y) {
                return false;
            }
            return t.tall >= tall + 5 * (t.y - y);
        }

        boolean shades(int p, int q) {
            Tree t = trees.get(p);
            Tree u = trees.get(q);
            return p != q && u.up() && shades(t, u.x, u.y, u.tall);
        }

        boolean shaded(int q) {
            for (int p = 0; p < trees.size(); p++) {
                if (p != q && shades(p, q)) {
                    return true;
                }
            }
            return false;
        }

        void fall(int first) {
            Deque<Integer> queue = new ArrayDeque<>(List.of(first));
            while (!queue.isEmpty()) {
                Tree t = trees.get(queue.poll());
                t.is = Is.FELL;
                Man door = men.get(t.to);
                int dx = door.x - t.x;
                int dy = door.y - t.y;
                int sx = 0;
                int sy = 0;
                if (dx * dx >= dy * dy) {
                    sx = dx > 0 ? 1 : -1;
                } else {
                    sy = dy > 0 ? 1 : -1;
                }
                for (int k = 1; k <= 1 + t.tall / 10; k++) {
                    int x = t.x + k * sx;
                    int y = t.y + k * sy;
                    if (!land(x, y)) {
                        continue;
                    }
                    shut.add(List.of(x, y));
                    for (int q = 0; q < trees.size(); q++) {
                        Tree u = trees.get(q);
                        if (u.up() && u.x == x && u.y == y && u.tall < t.tall && !queue.contains(q)) {
                            queue.add(q);
                        }
                    }
                }
            }
        }

        int keep(int p) {
            Tree t = trees.get(p);
            if (t.is != Is.STANDS) {
                return 1;
            }
            for (int q = 0; q < trees.size(); q++) {
                if (q != p && clash(p, q) && trees.get(q).is == Is.KEPT) {
                    return 2;
                }
            }
            Man m = men.get(t.by);
            if (m.keptOn == day) {
                return 3;
            }
            t.is = Is.KEPT;
            m.keptOn = day;
            m.kept++;
            return 0;
        }

        int breaks(int p) {
            if (trees.get(p).is != Is.STANDS) {
                return 1;
            }
            fall(p);
            return 0;
        }

        int free(int p) {
            if (trees.get(p).is != Is.STANDS) {
                return 1;
            }
            trees.get(p).is = Is.STUMP;
            return 0;
        }

        int water(int p) {
            Tree t = trees.get(p);
            if (t.is != Is.STANDS) {
                return 1;
            }
            if (t.watered == day) {
                return 2;
            }
            t.watered = day;
            t.tall = Math.min(99, t.tall + 5);
            return 0;
        }

        boolean pass() {
            if (day == 400) {
                return false;
            }
            List<Tree> lit = new ArrayList<>();
            for (int p = 0; p < trees.size(); p++) {
                if (trees.get(p).is == Is.STANDS && !shaded(p)) {
                    lit.add(trees.get(p));
                }
            }
            lit.forEach(t -> t.tall = Math.min(99, t.tall + grows));
            for (int p = 0; p < trees.size(); p++) {
                if (trees.get(p).is == Is.STANDS && trees.get(p).till <= day) {
                    fall(p);
                }
            }
            day++;
            return true;
        }

        int pass(int n) {
            int gone = 0;
            while (gone < n && pass()) {
                gone++;
            }
            return gone;
        }

        int drawn(int n, int seed) {
            int[] x = {seed};
            int gone = 0;
            while (gone < n && day < 400) {
                if (draw(x, 12) < storm) {
                    int p = draw(x, trees.size());
                    if (trees.get(p).is == Is.STANDS && trees.get(p).tall >= 10) {
                        fall(p);
                    }
                }
                for (int p = 0; p < trees.size(); p++) {
                    int d = draw(x, 10);
                    if (d == 0) {
                        keep(p);
                    } else if (d == 1) {
                        free(p);
                    } else if (d == 2) {
                        water(p);
                    }
                }
                pass();
                gone++;
            }
            return gone;
        }

        static int draw(int[] x, int n) {
            x[0] = x[0] * 1103515245 + 12345;
            return (x[0] >>> 8) % n;
        }

        int thing(int x, int y) {
            for (int m = 0; m < men.size(); m++) {
                if (men.get(m).x == x && men.get(m).y == y) {
                    return 40 + m;
                }
            }
            for (int p = 0; p < trees.size(); p++) {
                Tree t = trees.get(p);
                if (t.x == x && t.y == y) {
                    return t.up() ? p : t.is == Is.STUMP ? 20 + p : 60;
                }
            }
            return 60;
        }

        int way(int m, int o) {
            List<Integer> goal = List.of(men.get(o).x, men.get(o).y);
            List<Integer> start = List.of(men.get(m).x, men.get(m).y);
            Set<List<Integer>> seen = new HashSet<>(List.of(start));
            List<List<Integer>> edge = List.of(start);
            for (int steps = 0; !edge.isEmpty(); steps++) {
                if (edge.contains(goal)) {
                    return steps;
                }
                List<List<Integer>> next = new ArrayList<>();
                for (List<Integer> c : edge) {
                    for (int[] d : new int[][] {{1, 0}, {-1, 0}, {0, 1}, {0, -1}}) {
                        int x = c.get(0) + d[0];
                        int y = c.get(1) + d[1];
                        List<Integer> to = List.of(x, y);
                        boolean may = land(x, y) && thing(x, y) >= 20 && !shut.contains(to);
                        if ((may || to.equals(goal)) && seen.add(to)) {
                            next.add(to);
                        }
                    }
                }
                edge = next;
            }
            return -1;
        }
    }

    /** Where a text is wrong. */
    static final class Fault extends Exception {
        private static final long serialVersionUID = 1L;
        final int kind;
        final int place;

        Fault(int kind, int place) {
            this.kind = kind;
            this.place = place;
        }
    }

    record Token(String text, int place) {
        boolean word() {
            return text.matches("[a-z]{1,7}");
        }

        boolean number() {
            return text.matches("[0-9]{1,3}");
        }

        boolean name() {
            return word() && !TOLD_WORDS.contains(text);
        }
    }

    /** Tokens one by one; a text of null is the end. */
    static final class Text {
        final String all;
        final int most;
        int place;
        Token token;

        Text(String all, int most) {
            this.all = all;
            this.most = most;
        }

        Token next() throws Fault {
            while (place < all.length() && place < most && " \n".indexOf(all.charAt(place)) >= 0) {
                place++;
            }
            if (place >= most && all.length() > most) {
                throw new Fault(1, most);
            }
            if (place >= all.length()) {
                token = new Token("", all.length());
                return token;
            }
            int from = place;
            while (place < all.length() && String.valueOf(all.charAt(place)).matches("[a-z0-9]")) {
                place++;
            }
            if (place == from) {
                place++;
            }
            token = new Token(all.substring(from, place), from);
            if (!token.word() && !token.number() && !";<=>()".contains(token.text)) {
                throw new Fault(1, from);
            }
            return token;
        }

        boolean over() {
            return token.text.isEmpty();
        }

        int number(int low, int high) throws Fault {
            next();
            if (!token.number()) {
                throw new Fault(1, token.place);
            }
            int n = Integer.parseInt(token.text);
            if (n < low || n > high) {
                throw new Fault(2, token.place);
            }
            return n;
        }

        String name() throws Fault {
            next();
            if (!token.name()) {
                throw new Fault(1, token.place);
            }
            return token.text;
        }

        void want(String sign) throws Fault {
            next();
            if (!token.text.equals(sign)) {
                throw new Fault(1, token.place);
            }
        }

        Fault at(int kind) {
            return new Fault(kind, token.place);
        }
    }

    // ---- a sentence as a tree ----

    interface Said {
        boolean of(Place here, int p);
    }

    static final class SentenceText {
        final Text text;
        final Place here;
        int ones;

        SentenceText(Text text, Place here) {
            this.text = text;
            this.here = here;
        }

        Said whole() throws Fault {
            text.next();
            Said s = cond(1);
            if (!text.over()) {
                throw text.at(1);
            }
            return s;
        }

        Said cond(int depth) throws Fault {
            Said left = all(depth);
            while (text.token.text.equals("or")) {
                text.next();
                Said a = left;
                Said b = all(depth);
                left = (h, p) -> a.of(h, p) || b.of(h, p);
            }
            return left;
        }

        Said all(int depth) throws Fault {
            Said left = one(depth);
            while (text.token.text.equals("and")) {
                text.next();
                Said a = left;
                Said b = one(depth);
                left = (h, p) -> a.of(h, p) && b.of(h, p);
            }
            return left;
        }

        Said one(int depth) throws Fault {
            String w = text.token.text;
            if (!Set.of("not", "(", "stands", "kept", "fell", "stump", "shaded", "by", "to", "tall", "till", "number")
                .contains(w)) {
                throw text.at(1);
            }
            ones++;
            if (ones > 20 || depth > 8) {
                throw text.at(4);
            }
            if (w.equals("not")) {
                text.next();
                Said s = one(depth + 1);
                return (h, p) -> !s.of(h, p);
            }
            if (w.equals("(")) {
                text.next();
                Said s = cond(depth + 1);
                if (!text.token.text.equals(")")) {
                    throw text.at(1);
                }
                text.next();
                return s;
            }
            Said s = plain(w);
            text.next();
            return s;
        }

        Said plain(String w) throws Fault {
            switch (w) {
                case "by":
                case "to":
                    int m = manOf(here, text.name());
                    if (m < 0) {
                        throw text.at(3);
                    }
                    return w.equals("by") ? (h, p) -> h.trees.get(p).by == m : (h, p) -> h.trees.get(p).to == m;
                case "tall":
                case "till":
                case "number":
                    text.next();
                    String sign = text.token.text;
                    if (!Set.of("<", "=", ">").contains(sign)) {
                        throw text.at(1);
                    }
                    int n = text.number(0, 999);
                    return (h, p) -> {
                        int v = w.equals("tall") ? h.trees.get(p).tall : w.equals("till") ? h.trees.get(p).till : p;
                        return sign.equals("<") ? v < n : sign.equals("=") ? v == n : v > n;
                    };
                case "shaded":
                    return (h, p) -> h.shaded(p);
                default:
                    return (h, p) -> h.trees.get(p).is == Is.valueOf(w.toUpperCase());
            }
        }
    }

    static int manOf(Place here, String name) {
        for (int m = 0; m < here.men.size(); m++) {
            if (here.men.get(m).name.equals(name)) {
                return m;
            }
        }
        return -1;
    }

    static int treeOf(Place here, String name) {
        for (int p = 0; p < here.trees.size(); p++) {
            if (here.trees.get(p).name.equals(name)) {
                return p;
            }
        }
        return -1;
    }

    // ---- the face ----

    StringBuilder tape = new StringBuilder();
    Place here = new Place();
    Said said;
    List<Place> undos = new ArrayList<>();
    Place[] images = new Place[2];
    Said[] imageSaid = new Said[2];
    int fault;
    int chosen = -1;
    List<Integer> ring = List.of();
    int surely = -1;
    int ask = -1;
    int price = -1;
    int[] told;

    private String takeTape() {
        String text = tape.toString();
        tape.setLength(0);
        return text;
    }

    private boolean noTree(int p) {
        return p < 0 || p >= here.trees.size();
    }

    private boolean noMan(int m) {
        return m < 0 || m >= here.men.size();
    }

    int feed(int a, int b, int c, int d, int e) {
        if (tape.length() > 920) {
            return -1;
        }
        for (int n : new int[] {a, b, c, d, e}) {
            tape.append((char) (n >> 24 & 255)).append((char) (n >> 16 & 255)).append((char) (n >> 8 & 255))
                .append((char) (n & 255));
        }
        return tape.length();
    }

    boolean end(int n) {
        if (n < 0 || n > tape.length()) {
            return false;
        }
        tape.setLength(n);
        return true;
    }

    int headland() {
        Text text = new Text(takeTape(), 900);
        try {
            int[] lines = {0};
            Place there = readPlace(text, lines);
            fault = 0;
            here = there;
            said = null;
            undos.clear();
            return lines[0];
        } catch (Fault f) {
            fault = f.kind;
            return -1 - f.place;
        }
    }

    private static Place readPlace(Text text, int[] lines) throws Fault {
        Place there = new Place();
        Set<String> once = new HashSet<>();
        for (text.next(); !text.over(); text.next()) {
            String w = text.token.text;
            switch (w) {
                case "land":
                    if (!once.add(w) || !there.men.isEmpty() || !there.trees.isEmpty()) {
                        throw text.at(3);
                    }
                    there.wide = text.number(2, 8);
                    there.high = text.number(2, 8);
                    break;
                case "grows":
                    if (!once.add(w)) {
                        throw text.at(3);
                    }
                    there.grows = text.number(0, 9);
                    break;
                case "storm":
                    if (!once.add(w)) {
                        throw text.at(3);
                    }
                    there.storm = text.number(0, 12);
                    break;
                case "man":
                    readMan(text, there);
                    break;
                case "promise":
                    readTree(text, there);
                    break;
                case "clash":
                    readClash(text, there);
                    break;
                default:
                    throw text.at(1);
            }
            text.want(";");
            lines[0]++;
        }
        return there;
    }

    private static String newName(Text text, Place there) throws Fault {
        String name = text.name();
        if (manOf(there, name) >= 0 || treeOf(there, name) >= 0) {
            throw text.at(3);
        }
        return name;
    }

    private static int[] newCell(Text text, Place there) throws Fault {
        int x = text.number(0, there.wide - 1);
        int y = text.number(0, there.high - 1);
        if (there.thing(x, y) != 60) {
            throw text.at(3);
        }
        return new int[] {x, y};
    }

    private static void readMan(Text text, Place there) throws Fault {
        if (there.men.size() == 6) {
            throw text.at(4);
        }
        Man m = new Man();
        m.name = newName(text, there);
        int[] cell = newCell(text, there);
        m.x = cell[0];
        m.y = cell[1];
        there.men.add(m);
    }

    private static void readTree(Text text, Place there) throws Fault {
        if (there.trees.size() == 10) {
            throw text.at(4);
        }
        Tree t = new Tree();
        t.name = newName(text, there);
        t.by = manOf(there, text.name());
        if (t.by < 0) {
            throw text.at(3);
        }
        t.to = manOf(there, text.name());
        if (t.to < 0 || t.to == t.by) {
            throw text.at(3);
        }
        int[] cell = newCell(text, there);
        t.x = cell[0];
        t.y = cell[1];
        t.tall = text.number(0, 60);
        t.till = text.number(0, 399);
        there.trees.add(t);
    }

    private static void readClash(Text text, Place there) throws Fault {
        if (there.clashes.size() == 8) {
            throw text.at(4);
        }
        int p = treeOf(there, text.name());
        if (p < 0) {
            throw text.at(3);
        }
        int q = treeOf(there, text.name());
        if (q < 0 || p == q || there.clash(p, q)) {
            throw text.at(3);
        }
        there.clashes.add(Set.of(p, q));
    }

    int fault() {
        return fault;
    }

    int promise(int p, int what) {
        if (noTree(p) || what < 0 || what > 8) {
            throw new NoSuchElementException();
        }
        Tree t = here.trees.get(p);
        int clashes = here.mask(q -> q != p && here.clash(p, q));
        return new int[] {t.by, t.to, t.x, t.y, t.tall, t.till, t.is.ordinal(), here.shaded(p) ? 1 : 0, clashes}[what];
    }

    int man(int m, int what) {
        if (noMan(m) || what < 0 || what > 5) {
            throw new NoSuchElementException();
        }
        Man man = here.men.get(m);
        List<Tree> ts = here.trees;
        int by = here.mask(p -> ts.get(p).by == m && ts.get(p).is == Is.STANDS);
        int to = here.mask(p -> ts.get(p).to == m && ts.get(p).is == Is.STANDS);
        int broken = (int) ts.stream().filter(t -> t.by == m && t.is == Is.FELL).count();
        return new int[] {man.x, man.y, by, to, man.kept, broken}[what];
    }

    int cell(int x, int y) {
        if (!here.land(x, y)) {
            return -1;
        }
        return here.thing(x, y) + (here.shut.contains(List.of(x, y)) ? 100 : 0);
    }

    private int wood() {
        return here.trees.stream().filter(t -> t.is == Is.FELL).mapToInt(t -> t.tall).sum();
    }

    int now(int what) {
        switch (what) {
            case 0: return here.day;
            case 1: case 2: case 3: case 4: return here.bits(Is.values()[what - 1]);
            case 5: return here.shut.size();
            case 6: return here.trees.stream().filter(Tree::up).mapToInt(t -> t.tall).sum();
            case 7: return wood();
            default: return -1;
        }
    }

    private int done(Place before, int answer, boolean did) {
        if (did) {
            undos.add(before);
            if (undos.size() > 8) {
                undos.remove(0);
            }
        }
        return answer;
    }

    int keep(int p) {
        if (noTree(p)) {
            return -1;
        }
        Place before = here.copy();
        int why = here.keep(p);
        return done(before, why, why == 0);
    }

    int breaks(int p) {
        if (noTree(p)) {
            return -1;
        }
        Place before = here.copy();
        int why = here.breaks(p);
        return done(before, why, why == 0);
    }

    int free(int p) {
        if (noTree(p)) {
            return -1;
        }
        Place before = here.copy();
        int why = here.free(p);
        return done(before, why, why == 0);
    }

    int water(int p) {
        if (noTree(p)) {
            return -1;
        }
        Place before = here.copy();
        int why = here.water(p);
        return done(before, why, why == 0);
    }

    int days(int n) {
        if (n < 1 || n > 60) {
            return -1;
        }
        Place before = here.copy();
        int gone = here.pass(n);
        return done(before, gone, gone > 0);
    }

    int undo() {
        if (undos.isEmpty()) {
            return -1;
        }
        here = undos.remove(undos.size() - 1);
        return undos.size();
    }

    int shades(int p) {
        return noTree(p) ? -1 : here.mask(q -> here.shades(p, q));
    }

    int light(int k) {
        List<Integer> cells = new ArrayList<>();
        for (int y = 0; y < here.high; y++) {
            for (int x = 0; x < here.wide; x++) {
                boolean lit = cell(x, y) == 60;
                for (Tree t : here.trees) {
                    lit &= !here.shades(t, x, y, 0);
                }
                if (lit) {
                    cells.add(x + 10 * y);
                }
            }
        }
        return k == -1 ? cells.size() : k >= 0 && k < cells.size() ? cells.get(k) : -1;
    }

    private Place after(int p) {
        if (noTree(p) || here.trees.get(p).is != Is.STANDS) {
            return null;
        }
        Place then = here.copy();
        then.fall(p);
        return then;
    }

    int falls(int p) {
        Place then = after(p);
        return then == null ? -1 : then.bits(Is.FELL) - here.bits(Is.FELL);
    }

    int shuts(int p) {
        Place then = after(p);
        return then == null ? -1 : then.shut.size() - here.shut.size();
    }

    int way(int m, int o) {
        return noMan(m) || noMan(o) ? -1 : here.way(m, o);
    }

    int bars(int m, int o) {
        if (noMan(m) || noMan(o) || m == o || here.way(m, o) < 0) {
            return -1;
        }
        return here.mask(p -> here.trees.get(p).is == Is.STANDS && after(p).way(m, o) < 0);
    }

    int most() {
        int n = here.trees.size();
        int best = 0;
        chosen = 0;
        for (int set = (1 << n) - 1; set > 0; set--) {
            int size = Integer.bitCount(set);
            if (size >= Math.max(1, best) && keepable(set)) {
                best = size;
                chosen = set;
            }
        }
        return best;
    }

    /** By trying it: each man keeps what is most pressing, day by day. */
    private boolean keepable(int set) {
        for (int p = 0; p < here.trees.size(); p++) {
            if ((set >> p & 1) == 1) {
                if (here.trees.get(p).is != Is.STANDS) {
                    return false;
                }
                for (int q = 0; q < here.trees.size(); q++) {
                    boolean there = (set >> q & 1) == 1 || here.trees.get(q).is == Is.KEPT;
                    if (q != p && there && here.clash(p, q)) {
                        return false;
                    }
                }
            }
        }
        for (int m = 0; m < here.men.size(); m++) {
            List<Integer> tills = new ArrayList<>();
            for (int p = 0; p < here.trees.size(); p++) {
                if ((set >> p & 1) == 1 && here.trees.get(p).by == m) {
                    tills.add(here.trees.get(p).till);
                }
            }
            tills.sort(null);
            int day = here.day + (here.men.get(m).keptOn == here.day ? 1 : 0);
            for (int till : tills) {
                if (till < day) {
                    return false;
                }
                day++;
            }
        }
        return true;
    }

    int chosen() {
        return chosen;
    }

    int ring() {
        List<List<Integer>> rings = new ArrayList<>();
        for (int p = 0; p < here.trees.size(); p++) {
            if (here.trees.get(p).is == Is.STANDS) {
                chains(new ArrayList<>(List.of(p)), rings);
            }
        }
        if (rings.isEmpty()) {
            return -1;
        }
        rings.sort((a, b) -> {
            if (a.size() != b.size()) {
                return a.size() - b.size();
            }
            return Arrays.compare(a.toArray(new Integer[0]), b.toArray(new Integer[0]));
        });
        ring = rings.get(0);
        return ring.size();
    }

    private void chains(List<Integer> chain, List<List<Integer>> rings) {
        int to = here.trees.get(chain.get(chain.size() - 1)).to;
        if (to == here.trees.get(chain.get(0)).by) {
            rings.add(new ArrayList<>(chain));
            return;
        }
        for (int q = 0; q < here.trees.size(); q++) {
            Tree t = here.trees.get(q);
            if (t.is == Is.STANDS && t.by == to && !chain.contains(q)) {
                chain.add(q);
                chains(chain, rings);
                chain.remove(chain.size() - 1);
            }
        }
    }

    int ringAt(int k) {
        return k >= 0 && k < ring.size() ? ring.get(k) : -1;
    }

    int sworn() {
        String bytes = takeTape();
        int men = here.men.size();
        if (bytes.isEmpty() || bytes.length() != men) {
            return -1;
        }
        int sets = 0;
        int all = (1 << here.trees.size()) - 1;
        int sure = all;
        List<Set<Integer>> ways = new ArrayList<>();
        for (int m = 0; m < men; m++) {
            ways.add(new TreeSet<>());
        }
        for (int set = 0; set <= all; set++) {
            boolean so = true;
            for (int m = 0; m < men; m++) {
                so &= Integer.bitCount(set & by(m)) == bytes.charAt(m);
            }
            if (so) {
                sets++;
                sure &= set;
                for (int m = 0; m < men; m++) {
                    ways.get(m).add(set & by(m));
                }
            }
        }
        if (sets > 0) {
            surely = sure;
            ask = 0;
            for (int m = 1; m < men; m++) {
                if (ways.get(m).size() > ways.get(ask).size()) {
                    ask = m;
                }
            }
        }
        return sets;
    }

    private int by(int m) {
        return here.mask(p -> here.trees.get(p).by == m);
    }

    int surely() {
        return surely;
    }

    int ask() {
        return ask;
    }

    int share(int w, int p) {
        if (w < 0 || w > 999 || noTree(p) || here.trees.get(p).is != Is.STANDS) {
            return -1;
        }
        List<Integer> who = new ArrayList<>();
        int thirst = 0;
        for (int q = 0; q < here.trees.size(); q++) {
            if (here.trees.get(q).is == Is.STANDS) {
                who.add(q);
                thirst += 99 - here.trees.get(q).tall;
            }
        }
        if (thirst == 0) {
            return 0;
        }
        int all = thirst;
        int[] has = new int[10];
        int[] rest = new int[10];
        int left = w;
        for (int q : who) {
            int part = w * (99 - here.trees.get(q).tall);
            has[q] = part / all;
            rest[q] = part - has[q] * all;
            left -= has[q];
        }
        who.sort((a, b) -> rest[b] - rest[a]);
        for (int k = 0; k < left; k++) {
            has[who.get(k)]++;
        }
        return has[p];
    }

    int rounds() {
        price = 10;
        for (int round = 1; round <= 60; round++) {
            int was = price;
            int paid = price * here.men.size();
            if (paid < wood()) {
                price++;
            } else if (paid > wood() && price > 0) {
                price--;
            }
            if (was == price) {
                return round;
            }
        }
        return 60;
    }

    int price() {
        return price;
    }

    int when(int p, int h) {
        if (noTree(p) || h < 0 || h > 99) {
            return -1;
        }
        Place then = here.copy();
        while (then.day <= 399) {
            if (then.trees.get(p).is == Is.STANDS && then.trees.get(p).tall >= h) {
                return then.day;
            }
            then.pass();
        }
        return -1;
    }

    int first() {
        Place then = here.copy();
        while (then.pass()) {
            if (then.bits(Is.FELL) != here.bits(Is.FELL)) {
                return then.day - 1;
            }
        }
        return -1;
    }

    int broken(int n) {
        if (n < 1 || n > 60) {
            return -1;
        }
        Place then = here.copy();
        then.pass(n);
        return then.bits(Is.FELL) - here.bits(Is.FELL);
    }

    int drawn(int n, int seed) {
        if (n < 1 || n > 60 || here.trees.isEmpty()) {
            return -1;
        }
        Place before = here.copy();
        int gone = here.drawn(n, seed);
        return done(before, gone, gone > 0);
    }

    int odds(int p, int n, int seed) {
        if (noTree(p) || n < 1 || n > 30) {
            return -1;
        }
        int kept = 0;
        for (int k = 0; k < n; k++) {
            Place then = here.copy();
            then.drawn(20, seed + k);
            kept += then.trees.get(p).is == Is.KEPT ? 1 : 0;
        }
        return kept;
    }

    int book(int lives) {
        if (lives < 0 || lives > 1) {
            return -1000;
        }
        Text text = new Text(takeTape(), 400);
        List<String[]> lines = new ArrayList<>();
        try {
            for (text.next(); !text.over(); text.next()) {
                lines.add(readBookLine(text, lines.size()));
            }
            fault = 0;
        } catch (Fault f) {
            fault = f.kind;
            return -2 - f.place;
        }
        Place then = here.copy();
        int why = 0;
        int line = 0;
        for (; line < lines.size() && why == 0; line++) {
            why = live(then, lines.get(line));
        }
        int fine = why == 0 ? line : line - 1;
        told = new int[] {why, fine, then.day, then.bits(Is.FELL)};
        if (lives == 1) {
            done(here, 0, true);
            here = then;
        }
        return why == 0 ? -1 : fine;
    }

    private String[] readBookLine(Text text, int lines) throws Fault {
        String w = text.token.text;
        if (!w.equals("day") && !text.token.name()) {
            throw text.at(1);
        }
        int p = treeOf(here, w);
        if (p < 0 && !w.equals("day")) {
            throw text.at(3);
        }
        if (lines == 40) {
            throw text.at(4);
        }
        if (w.equals("day")) {
            String[] line = {"day", String.valueOf(text.number(1, 60))};
            text.want(";");
            return line;
        }
        text.next();
        if (!Set.of("kept", "broken", "freed", "watered").contains(text.token.text)) {
            throw text.at(1);
        }
        String[] line = {text.token.text, String.valueOf(p)};
        text.want(";");
        return line;
    }

    private static int live(Place then, String[] line) {
        int n = Integer.parseInt(line[1]);
        int why;
        switch (line[0]) {
            case "day":
                if (then.day + n > 400) {
                    return 41;
                }
                then.pass(n);
                return 0;
            case "kept":
                return then.keep(n);
            case "broken":
                why = then.breaks(n);
                return why == 0 ? 0 : 10 + why;
            case "freed":
                why = then.free(n);
                return why == 0 ? 0 : 20 + why;
            default:
                why = then.water(n);
                return why == 0 ? 0 : 30 + why;
        }
    }

    int told(int what) {
        return told == null || what < 0 || what > 3 ? -1 : told[what];
    }

    int sentence() {
        SentenceText reader = new SentenceText(new Text(takeTape(), 200), here);
        try {
            said = reader.whole();
            fault = 0;
            return reader.ones;
        } catch (Fault f) {
            fault = f.kind;
            return -1 - f.place;
        }
    }

    int said(int k) {
        if (said == null) {
            return -1;
        }
        List<Integer> those = new ArrayList<>();
        for (int p = 0; p < here.trees.size(); p++) {
            if (said.of(here, p)) {
                those.add(p);
            }
        }
        return k == -1 ? those.size() : k >= 0 && k < those.size() ? those.get(k) : -1;
    }

    boolean image(int k) {
        if (k < 0 || k > 1) {
            return false;
        }
        images[k] = here.copy();
        imageSaid[k] = said;
        return true;
    }

    boolean restore(int k) {
        if (k < 0 || k > 1 || images[k] == null) {
            return false;
        }
        here = images[k].copy();
        said = imageSaid[k];
        undos.clear();
        return true;
    }

    int count(int what) {
        int[] all = {here.men.size(), here.trees.size(), here.wide, here.high, here.clashes.size(), here.grows,
            here.storm, tape.length()};
        return what < 0 || what > 7 ? -1 : all[what];
    }
}
