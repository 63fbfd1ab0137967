import java.lang.reflect.InvocationTargetException;
import java.lang.reflect.Method;
import java.nio.charset.StandardCharsets;
import java.util.ArrayList;
import java.util.Arrays;
import java.util.HashMap;
import java.util.List;
import java.util.Map;
import java.util.Random;

/** Random runs of at most 512 calls on the class and on the model: each answer must be the same. */
public final class ModelTest {
    private static final int RUNS = 1500;
    private static final String[] ACTS = {"kept", "broken", "freed", "watered"};
    private static final String[] ALL_WORDS = {"land", "man", "promise", "clash", "grows", "storm", "kept", "broken",
        "freed", "watered", "day", "or", "and", "not", "stands", "fell", "stump", "shaded", "by", "to", "tall", "till",
        "number", "0", "1", "7", "61", "400", "999", "1000", "a", "b", "m", "zz", "abcdefg", "abcdefgh", ";", "<", "=",
        ">", "(", ")", ".", "x1", "A"};

    private final Random random;
    private final PromiseTrees real = new PromiseTrees();
    private final Model model = new Model();
    private final List<String> log = new ArrayList<>();
    private int calls = 0;

    private static final Map<String, Method> REAL = new HashMap<>();
    private static final Map<String, Method> PLAIN = new HashMap<>();
    private static final List<String> NAMES = new ArrayList<>();
    private static final Map<String, Integer> ASKED = new HashMap<>();

    private ModelTest(long seed) {
        random = new Random(seed);
    }

    public static void main(String[] args) {
        for (Method m : PromiseTrees.class.getDeclaredMethods()) {
            if (java.lang.reflect.Modifier.isPublic(m.getModifiers())) {
                REAL.put(m.getName(), m);
                NAMES.add(m.getName());
            }
        }
        NAMES.sort(null);
        for (Method m : Model.class.getDeclaredMethods()) {
            Method same = REAL.get(m.getName());
            if (same != null && Arrays.equals(same.getParameterTypes(), m.getParameterTypes())) {
                PLAIN.put(m.getName(), m);
            }
        }
        for (int run = 0; run < RUNS; run++) {
            new ModelTest(run).run();
        }
        System.out.println(RUNS + " runs, " + ASKED.values().stream().mapToInt(n -> n).sum() + " calls");
        Check.close();
    }

    private void run() {
        putHeadland();
        while (calls < 500) {
            step();
        }
    }

    private int upTo(int n) {
        return random.nextInt(n);
    }

    private void step() {
        int dice = upTo(100);
        if (dice < 2) {
            putHeadland();
        } else if (dice < 10) {
            putText(bookText());
            call("book", upTo(20) == 0 ? 2 : upTo(2));
            for (int w = 0; w < 4; w++) {
                call("told", w);
            }
        } else if (dice < 17) {
            putText(sentenceText());
            call("sentence");
            call("fault");
            call("said", -1);
            call("said", upTo(4));
        } else if (dice < 20) {
            putSworn();
        } else if (dice < 45) {
            call(new String[] {"keep", "breaks", "free", "water", "water", "keep"}[upTo(6)], tree());
        } else if (dice < 52) {
            call("days", upTo(8) == 0 ? number(60) : 1 + upTo(3));
        } else if (dice < 55) {
            call("undo");
        } else if (dice < 57) {
            call("most");
            call("chosen");
        } else if (dice < 59) {
            call("ring");
            each("ringAt", 3);
        } else {
            any();
        }
    }

    private void any() {
        switch (upTo(20)) {
            case 0: each("promise", tree(), 9); break;
            case 1: each("man", man(), 6); break;
            case 2: each("now", 8); break;
            case 3: each("count", 8); break;
            case 4: call("cell", number(model.here.wide), number(model.here.high)); break;
            case 5: each("cell", number(model.here.wide), model.here.high); break;
            case 6: call("shades", tree()); break;
            case 7: call("light", number(30)); break;
            case 8: call("falls", tree()); call("shuts", tree()); break;
            case 9: call("way", man(), man()); break;
            case 10: call("bars", man(), man()); break;
            case 11: each("share", number(999), model.here.trees.size()); break;
            case 12: call("rounds"); call("price"); break;
            case 13: call("when", tree(), number(99)); break;
            case 14: call("first"); call("broken", number(60)); break;
            case 15: call("drawn", upTo(4) == 0 ? number(60) : 1 + upTo(3), random.nextInt()); break;
            case 16: call("odds", tree(), number(30), random.nextInt()); break;
            case 17: call("image", number(2)); break;
            case 18: call("restore", upTo(3) == 0 ? number(2) : -1); break;
            default: anyAtAll(); break;
        }
    }

    private void anyAtAll() {
        String name = NAMES.get(upTo(NAMES.size()));
        int[] row = new int[REAL.get(name).getParameterCount()];
        for (int i = 0; i < row.length; i++) {
            row[i] = number(10);
        }
        call(name, row);
    }

    private void each(String name, int most) {
        for (int k = -1; k <= most; k++) {
            call(name, k);
        }
    }

    private void each(String name, int ahead, int most) {
        for (int k = -1; k <= most; k++) {
            call(name, ahead, k);
        }
    }

    private int tree() {
        return number(Math.max(1, model.here.trees.size()));
    }

    private int man() {
        return number(Math.max(1, model.here.men.size()));
    }

    /** Mostly one that fits, at times one at an edge or far off. */
    private int number(int most) {
        switch (upTo(30)) {
            case 0: return -1;
            case 1: return most;
            case 2: return most + 1;
            case 3: return random.nextInt();
            case 4: return Integer.MIN_VALUE;
            default: return upTo(most);
        }
    }

    // ---- texts ----

    private void putHeadland() {
        StringBuilder text = new StringBuilder();
        int wide = 4;
        int high = 4;
        if (upTo(6) != 0) {
            wide = 2 + upTo(7);
            high = 2 + upTo(7);
            text.append("land ").append(wide).append(' ').append(high).append(';');
        }
        List<Integer> cells = new ArrayList<>();
        for (int c = 0; c < wide * high; c++) {
            cells.add(c);
        }
        java.util.Collections.shuffle(cells, random);
        int men = Math.min(upTo(25) == 0 ? upTo(2) : 2 + upTo(5), cells.size() - 1);
        for (int m = 0; m < men; m++) {
            int c = cells.remove(0);
            text.append("man ").append("abcdef".charAt(m)).append(' ').append(c % wide).append(' ').append(c / wide)
                .append(';');
        }
        int trees = men < 2 ? 0 : Math.min(upTo(4) == 0 ? 10 : upTo(11), cells.size());
        for (int p = 0; p < trees; p++) {
            int c = cells.remove(0);
            int by = upTo(men);
            int to = (by + 1 + upTo(men - 1)) % men;
            text.append("promise ").append("klmnopqrst".charAt(p)).append(' ').append("abcdef".charAt(by)).append(' ')
                .append("abcdef".charAt(to)).append(' ').append(c % wide).append(' ').append(c / wide).append(' ')
                .append(upTo(61)).append(' ').append(upTo(3) == 0 ? upTo(400) : upTo(15)).append(';');
        }
        List<int[]> pairs = new ArrayList<>();
        for (int p = 0; p < trees; p++) {
            for (int q = 0; q < p; q++) {
                pairs.add(upTo(2) == 0 ? new int[] {p, q} : new int[] {q, p});
            }
        }
        java.util.Collections.shuffle(pairs, random);
        int clashes = Math.min(upTo(20) == 0 ? 9 : upTo(6), pairs.size());
        for (int k = 0; k < clashes; k++) {
            text.append("clash ").append("klmnopqrst".charAt(pairs.get(k)[0])).append(' ')
                .append("klmnopqrst".charAt(pairs.get(k)[1])).append(';');
        }
        if (upTo(2) == 0) {
            text.append("grows ").append(upTo(10)).append(';');
        }
        if (upTo(2) == 0) {
            text.append("storm ").append(upTo(13)).append(';');
        }
        putText(upTo(5) == 0 ? spoilt(text.toString(), 900) : text.toString());
        call("headland");
        call("fault");
        for (int w = 0; w < 8; w++) {
            call("count", w);
        }
    }

    private String treeName() {
        int n = model.here.trees.size();
        return n == 0 || upTo(40) == 0 ? "zz" : model.here.trees.get(upTo(n)).name;
    }

    private String manName() {
        int n = model.here.men.size();
        return n == 0 || upTo(40) == 0 ? "zz" : model.here.men.get(upTo(n)).name;
    }

    private String bookText() {
        StringBuilder text = new StringBuilder();
        int lines = upTo(8) == 0 ? 38 + upTo(5) : upTo(6);
        for (int k = 0; k < lines; k++) {
            if (upTo(4) == 0) {
                text.append("day ").append(upTo(6) == 0 ? 1 + upTo(60) : 1 + upTo(3)).append(';');
            } else {
                text.append(treeName()).append(' ').append(ACTS[upTo(4)]).append(';');
            }
        }
        return upTo(4) == 0 ? spoilt(text.toString(), 400) : text.toString();
    }

    private String sentenceText() {
        StringBuilder text = new StringBuilder();
        if (upTo(8) == 0) {
            int deep = 6 + upTo(4);
            for (int k = 0; k < deep; k++) {
                text.append(upTo(2) == 0 ? "not " : "(");
            }
            one(text, 9);
            for (int k = text.length() - 1; k >= 0; k--) {
                if (text.charAt(k) == '(') {
                    text.append(')');
                }
            }
        } else if (upTo(8) == 0) {
            for (int k = 0; k < 17 + upTo(5); k++) {
                text.append(k == 0 ? "" : upTo(2) == 0 ? " or " : " and ").append(upTo(4) == 0 ? "not kept" : "fell");
            }
        } else {
            cond(text, 0);
        }
        return upTo(4) == 0 ? spoilt(text.toString(), 200) : text.toString();
    }

    private void cond(StringBuilder text, int depth) {
        one(text, depth);
        while (upTo(3) == 0) {
            text.append(upTo(2) == 0 ? " or " : " and ");
            one(text, depth);
        }
    }

    private void one(StringBuilder text, int depth) {
        switch (upTo(depth > 6 ? 8 : 11)) {
            case 0: text.append("stands"); break;
            case 1: text.append("kept"); break;
            case 2: text.append("fell"); break;
            case 3: text.append("stump"); break;
            case 4: text.append("shaded"); break;
            case 5: text.append("by ").append(manName()); break;
            case 6: text.append("to ").append(manName()); break;
            case 7:
                text.append(new String[] {"tall", "till", "number"}[upTo(3)]).append("<=>".charAt(upTo(3)))
                    .append(upTo(3) == 0 ? upTo(100) : upTo(12));
                break;
            case 8:
                text.append("not ");
                one(text, depth + 1);
                break;
            default:
                text.append('(');
                cond(text, depth + 1);
                text.append(')');
                break;
        }
    }

    /** A token, a sign or a length made wrong. */
    private String spoilt(String text, int most) {
        StringBuilder all = new StringBuilder(text);
        int at = all.length() == 0 ? 0 : upTo(all.length());
        switch (upTo(6)) {
            case 0: all.insert(at, ALL_WORDS[upTo(ALL_WORDS.length)]); break;
            case 1: all.insert(at, " " + ALL_WORDS[upTo(ALL_WORDS.length)] + " "); break;
            case 2: all.setLength(at); break;
            case 3:
                if (all.length() > 0) {
                    all.setCharAt(at, (char) upTo(256));
                }
                break;
            case 4:
                int blanks = Math.max(0, most - 10 + upTo(20) - all.length());
                all.insert(upTo(2) == 0 ? 0 : all.length(), " ".repeat(blanks));
                break;
            default:
                int to = Math.min(all.length(), at + 1 + upTo(8));
                all.delete(at, to);
                break;
        }
        return all.toString();
    }

    private void putSworn() {
        byte[] row = new byte[model.here.men.size() + (upTo(10) == 0 ? 1 : 0)];
        for (int m = 0; m < row.length; m++) {
            int man = m;
            int gave = (int) model.here.trees.stream().filter(t -> t.by == man).count();
            row[m] = (byte) (upTo(30) == 0 ? upTo(256) : upTo(gave + 1));
        }
        putBytes(row);
        call("sworn");
        call("surely");
        call("ask");
    }

    private void putText(String text) {
        putBytes(text.getBytes(StandardCharsets.ISO_8859_1));
    }

    private void putBytes(byte[] text) {
        int had = model.tape.length();
        if (had > 0 && upTo(30) != 0) {
            call("end", 0);
            had = 0;
        }
        for (int i = 0; i < text.length; i += 20) {
            call("feed", Check.four(text, i), Check.four(text, i + 4), Check.four(text, i + 8),
                Check.four(text, i + 12), Check.four(text, i + 16));
        }
        call("end", had + text.length);
    }

    // ---- calls on both ----

    private void call(String name, int... row) {
        if (calls >= 512) {
            return;
        }
        calls++;
        ASKED.merge(name, 1, Integer::sum);
        Object[] args = new Object[row.length];
        for (int i = 0; i < row.length; i++) {
            args[i] = row[i];
        }
        String want = answer(PLAIN.get(name), model, args);
        String got = answer(REAL.get(name), real, args);
        log.add(name + Arrays.toString(row) + " = " + got);
        boolean same = got.equals(want);
        if (!same) {
            int from = Math.max(0, log.size() - 12);
            System.out.println(String.join("\n", log.subList(from, log.size())));
        }
        Check.due(name + ": the class says " + got + ", the model " + want, same, true);
        if (!same) {
            Check.close();
        }
    }

    private static String answer(Method method, Object on, Object[] args) {
        try {
            return String.valueOf(method.invoke(on, args));
        } catch (InvocationTargetException e) {
            return "throws " + e.getCause().getClass().getName();
        } catch (IllegalAccessException e) {
            throw new IllegalStateException(e);
        }
    }
}
