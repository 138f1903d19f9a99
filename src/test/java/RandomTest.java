import java.nio.charset.StandardCharsets;
import java.util.ArrayList;
import java.util.List;
import java.util.Random;

/** Random SHORES and random runs of calls: InkLake against Model. The seeds are fixed, so each run is the same. */
public final class RandomTest {
    private static final int TEXTS = 60000;
    private static final int RUNS = 1500;
    private static final int CALLS = 400;
    // Nothing is promised behind an object's 512th call; the dearest call of a run makes less than 100 of them.
    private static final int ALL_CALLS = 410;
    private static final String[] TOKENS = ("lake has black holds brook gives village miles deed of needs worth by draws fades may dries "
            + "reads drought season level dark ink age number term or and not all min max first total a b c abcdef abcdefg villages "
            + "0 1 5 99 100 999 1000 9999 10000 ; ; ; ( ) [ ] , + - * / < > = # A . \n").split(" ");

    private final Random random;
    private final StringBuilder text = new StringBuilder();
    private final List<String> villages = new ArrayList<>();
    private int deepest;
    private int callsBeside;

    private RandomTest(long seed) {
        random = new Random(seed);
    }

    public static void main(String[] args) {
        for (int k = 0; k < TEXTS; k++) {
            new RandomTest(k).texts();
        }
        for (int k = 0; k < RUNS; k++) {
            new RandomTest(1000000L + k).run(k);
        }
        Check.finish();
    }

    private int below(int n) {
        return random.nextInt(n);
    }

    private boolean onceIn(int n) {
        return below(n) == 0;
    }

    private int between(int least, int most) {
        int kind = below(8);
        return kind == 0 ? least : kind == 1 ? most : least + below(most - least + 1);
    }

    private String pick(String words) {
        String[] all = words.split(" ");
        return all[below(all.length)];
    }

    /** Puts a word, a number or a sign behind the text, with a blank where one is needed. */
    private RandomTest put(String token) {
        char last = text.length() == 0 ? ' ' : text.charAt(text.length() - 1);
        boolean needed = Character.isLetterOrDigit(last) && Character.isLetterOrDigit(token.charAt(0));
        if (needed || onceIn(6)) {
            text.append(onceIn(5) ? '\n' : ' ');
        }
        text.append(token);
        return this;
    }

    private RandomTest put(int number) {
        return put(Integer.toString(number));
    }

    private void sum(String parts, int depth) {
        product(parts, depth);
        while (onceIn(3)) {
            put(pick("+ -"));
            product(parts, depth);
        }
    }

    private void product(String parts, int depth) {
        part(parts, depth);
        while (onceIn(4)) {
            put(pick("* /"));
            part(parts, depth);
        }
    }

    private void part(String parts, int depth) {
        int kind = below(depth > deepest ? 5 : onceIn(3) && deepest > 5 ? 20 : 8);
        if (kind < 2) {
            put(onceIn(4) ? between(0, 9999) : below(100));
        } else if (kind < 5) {
            String word = pick(parts);
            put(word);
            if (word.equals("by")) {
                part(depth > deepest ? "1 0 2 number" : parts, depth + 1);
            }
        } else if (kind == 5 || kind > 8) {
            put("(");
            sum(parts, depth + 1);
            put(")");
        } else {
            put(pick("min max")).put("(");
            sum(parts, depth + 1);
            put(",");
            sum(parts, depth + 1);
            put(")");
        }
    }

    private void test(String parts, int depth) {
        fact(parts, depth);
        while (onceIn(3)) {
            put(pick("or and"));
            fact(parts, depth);
        }
    }

    private void fact(String parts, int depth) {
        int kind = below(depth > deepest ? 4 : 7);
        if (kind == 0) {
            put("all");
        } else if (kind == 4) {
            put("not");
            fact(parts, depth + 1);
        } else if (kind == 5) {
            put("[");
            test(parts, depth + 1);
            put("]");
        } else {
            sum(parts, depth);
            put(pick("< > ="));
            sum(parts, depth);
        }
    }

    private String name(String sort, int k) {
        return onceIn(3) ? sort + (char) ('a' + k) : sort + "abcde".substring(0, below(3)) + (char) ('k' + k);
    }

    /** A SHORE whose FAULTS, if it has any, are NAMES told twice or too much nesting. */
    private String shore() {
        deepest = onceIn(5) ? 7 : 3;
        text.setLength(0);
        villages.clear();
        int holds = between(1, onceIn(3) ? 9999 : 200);
        put("lake").put("has").put(below(holds + 1)).put("black").put(between(0, onceIn(3) ? 9999 : 600)).put("holds").put(holds).put(";");
        int most = onceIn(3) ? 999 : 30;
        int brooks = onceIn(12) ? 7 : below(4);
        for (int k = 0; k < brooks; k++) {
            put("brook").put(name("b", k)).put("gives").put(between(0, most)).put("black").put(between(0, most)).put(";");
        }
        int places = onceIn(12) ? 7 : 1 + below(3);
        for (int k = 0; k < places; k++) {
            String name = name("v", k);
            villages.add(name);
            put("village").put(name).put("miles").put(between(0, 99)).put(";");
        }
        int deeds = onceIn(12) ? 9 : onceIn(5) ? 8 : below(5);
        for (int k = 0; k < deeds; k++) {
            put("deed").put(name("d", k)).put("of").put(villages.get(below(villages.size())));
            put("needs").put(1 + below(onceIn(4) ? 999 : 40)).put("worth").put(between(0, onceIn(3) ? 99 : 3));
            put("by").put(onceIn(2) ? below(12) : between(0, 99)).put(";");
        }
        String now = "needs worth miles season level dark needs";
        String then = "needs worth miles season ink age age";
        int rules = below(9);
        for (int k = 0; k < rules; k++) {
            switch (onceIn(20) ? below(3) : 3 + below(9)) {
                case 0: rule("draws", now); break;
                case 1: rule("fades", then); break;
                case 2: rule("may", now); break;
                case 3: case 4: put("dries").put(between(0, onceIn(2) ? 100 : 20)).put(";"); break;
                case 5: case 6: put("reads").put(between(0, onceIn(4) ? 9999 : 300)).put(";"); break;
                case 7: put("drought").put(between(0, 100)).put(";"); break;
                case 8: once("draws", now); break;
                case 9: once("fades", then); break;
                default: once("may", now); break;
            }
        }
        return text.toString();
    }

    private void rule(String word, String parts) {
        put(word);
        if (word.equals("may")) {
            test(parts, 0);
        } else {
            sum(parts, 0);
        }
        put(";");
    }

    private void once(String word, String parts) {
        if (text.indexOf(word) < 0) {
            rule(word, parts);
        }
    }

    private String question() {
        deepest = onceIn(5) ? 7 : 3;
        text.setLength(0);
        String parts = "number needs worth miles term draws ink age season by";
        if (onceIn(2)) {
            put(pick("first last often"));
            test(parts, 0);
        } else {
            put(pick("total most least"));
            sum(parts, 0);
        }
        return text.toString();
    }

    private String spoiled(String good) {
        StringBuilder s = new StringBuilder(good);
        int times = 1 + below(2);
        for (int k = 0; k < times && s.length() > 0; k++) {
            int at = below(s.length());
            switch (below(7)) {
                case 0: s.setLength(at); break;
                case 1: s.deleteCharAt(at); break;
                case 2: s.setCharAt(at, (char) below(256)); break;
                case 3: s.insert(at, TOKENS[below(TOKENS.length)]); break;
                case 4: s.insert(at, " " + TOKENS[below(TOKENS.length)] + " "); break;
                case 5: s.insert(at, s.charAt(at)); break;
                default: s.delete(at, Math.min(s.length(), at + 1 + below(12))); break;
            }
        }
        return s.length() > 1600 ? s.substring(0, 1600) : s.toString();
    }

    private String maybeSpoiled(String good, int onceIn) {
        return good.length() > 1600 || onceIn(onceIn) ? spoiled(good) : good;
    }

    private void texts() {
        InkLake x = new InkLake();
        Model m = new Model();
        String shore = maybeSpoiled(shore(), 2);
        feed(x, m, shore);
        Check.eq("shore " + shore, x.shore(), m.shore());
        faults(x, m, shore);
        String question = maybeSpoiled(question(), 2);
        feed(x, m, question);
        Check.eq("ask " + question + " of " + shore, x.ask(), m.ask());
        faults(x, m, question);
        for (int deed = 0; deed < x.has(2); deed++) {
            Check.eq("draws of " + shore, x.deed(deed, 7), m.deed(deed, 7));
            Check.eq("can be of " + shore, x.deed(deed, 8), m.deed(deed, 8));
        }
    }

    private void faults(InkLake x, Model m, String text) {
        Check.eq("fault of " + text, x.fault(0), m.fault(0));
        Check.eq("place of " + text, x.fault(1), m.fault(1));
    }

    private static void feed(InkLake x, Model m, String text) {
        feed(x, m, text.getBytes(StandardCharsets.ISO_8859_1));
    }

    private static void feed(InkLake x, Model m, byte[] bytes) {
        for (int at = 0; at < bytes.length; at += 20) {
            int[] n = new int[5];
            for (int k = 0; k < 20; k++) {
                n[k / 4] = n[k / 4] << 8 | (at + k < bytes.length ? bytes[at + k] & 255 : 0);
            }
            Check.eq("feed", x.feed(n[0], n[1], n[2], n[3], n[4]), m.feed(n[0], n[1], n[2], n[3], n[4]));
        }
        Check.eq("end", x.end(bytes.length) ? 1 : 0, m.end(bytes.length) ? 1 : 0);
    }

    private int odd(int most) {
        int kind = below(40);
        return kind == 0 ? -1 : kind == 1 ? random.nextInt() : kind == 2 ? most + 1 : kind == 3 ? most : below(Math.max(1, most));
    }

    private void run(int number) {
        InkLake x = new InkLake();
        Model m = new Model();
        StringBuilder log = new StringBuilder();
        if (!onceIn(30)) {
            String shore = shore();
            for (int k = 0; k < 9 && (shore.length() > 1600 || isFaulty(shore)); k++) {
                shore = shore();
            }
            feed(x, m, shore.length() > 1600 ? "lake has 5 black 5 holds 9;" : shore);
            log.append(shore);
            Check.eq("shore " + shore, x.shore(), m.shore());
        }
        for (int k = 0; k < CALLS && m.calls() + callsBeside < ALL_CALLS; k++) {
            callsBeside++;
            call(x, m, "run " + number + " call " + k + " of " + log);
        }
    }

    private static boolean isFaulty(String shore) {
        InkLake x = new InkLake();
        Lakes.put(x, shore);
        return x.shore() < 0;
    }

    private void call(InkLake x, Model m, String w) {
        int deed = odd(x.has(2));
        int a = odd(5);
        int b = odd(4);
        switch (below(44)) {
            case 0: case 1: case 2: Check.eq("write " + w, x.write(deed), m.write(deed)); break;
            case 3: a = odd(onceIn(3) ? 999 : 80); Check.eq("pour " + w, x.pour(a), m.pour(a)); break;
            case 4: case 5: a = odd(onceIn(8) ? 100 : 4); Check.eq("seasons " + w, x.seasons(a), m.seasons(a)); break;
            case 6: case 7: a = odd(onceIn(8) ? 100 : 4); Check.eq("years " + w, x.years(a), m.years(a)); break;
            case 8: case 9: case 10: Check.eq("undo " + w, x.undo() ? 1 : 0, m.undo() ? 1 : 0); break;
            case 11: a = onceIn(3) ? random.nextInt() : odd(99); Check.eq("seed " + w, x.seed(a) ? 1 : 0, m.seed(a) ? 1 : 0); break;
            case 12: case 13: a = odd(12); Check.eq("has " + w, x.has(a), m.has(a)); break;
            case 14: a = odd(3); b = odd(7); int c = odd(6); Check.eq("letter " + w, x.letter(a, b, c), m.letter(a, b, c)); break;
            case 15: Check.eq("brook " + w, x.brook(a, b), m.brook(a, b)); break;
            case 16: case 17: case 18: a = odd(10); Check.eq("deed " + a + w, x.deed(deed, a), m.deed(deed, a)); break;
            case 19: Check.eq("miles " + w, x.miles(a), m.miles(a)); break;
            case 20: case 21: a = odd(9); Check.eq("kept " + w, x.kept(a, b), m.kept(a, b)); break;
            case 22: case 23: a = odd(onceIn(2) ? 5 : 61); Check.eq("later " + w, x.later(a, b), m.later(a, b)); break;
            case 24: Check.eq("fade " + w, x.fade(deed), m.fade(deed)); break;
            case 25: Check.eq("soonest " + w, x.soonest(deed), m.soonest(deed)); break;
            case 26: case 27: b = odd(2); Check.eq("dip " + w, x.dip(deed, b), m.dip(deed, b)); break;
            case 28: Check.eq("missed " + w, x.missed(), m.missed()); break;
            case 29: case 30: b = odd(3); Check.eq("share " + w, x.share(b), m.share(b)); break;
            case 31: case 32: a = odd(1 << x.has(2)); Check.eq("all " + w, x.all(a), m.all(a)); break;
            case 33: case 34: thinned(x, m, w); break;
            case 35: outflows(x, m, w); break;
            case 36: Check.eq("brief " + w, x.brief(deed), m.brief(deed)); break;
            case 37: case 38: ask(x, m, w); break;
            case 39: image(x, m, w); break;
            case 40: image(x, m, w); on(x, m, w); break;
            case 41: a = odd(6); Check.eq("status " + w, x.status(a), m.status(a)); break;
            case 42: a = odd(2); Check.eq("fault " + w, x.fault(a), m.fault(a)); break;
            default: seldom(x, m, w); break;
        }
    }

    private void thinned(InkLake x, Model m, String w) {
        int more = odd(onceIn(3) ? 999 : 30);
        callsBeside += 2;
        int level = x.later(1, 0);
        int buckets = onceIn(3) ? odd(200) : level + (onceIn(2) ? 0 : below(3) * more);
        int dark = onceIn(2) ? -1 : onceIn(3) ? odd(400) : x.later(1, 2);
        int what = odd(3);
        Check.eq("thinned " + w, x.thinned(more, buckets, dark, what), m.thinned(more, buckets, dark, what));
    }

    private void outflows(InkLake x, Model m, String w) {
        int rows = onceIn(10) ? odd(12) : 1 + below(3);
        int lost = onceIn(2) ? 0 : below(9);
        StringBuilder bytes = new StringBuilder();
        for (int k = 1; k <= rows && k < 14; k++) {
            callsBeside++;
            int level = onceIn(20) ? below(70000) : Math.max(0, x.later(k, 0) - lost * k);
            bytes.append((char) (level >> 8 & 255)).append((char) (level & 255));
        }
        if (onceIn(25)) {
            bytes.append('x');
        }
        feed(x, m, bytes.toString());
        Check.eq("outflows " + w, x.outflows(), m.outflows());
        for (int what = -1; what < 3; what++) {
            Check.eq("outflow " + w, x.outflow(what), m.outflow(what));
        }
    }

    private void ask(InkLake x, Model m, String w) {
        String question = maybeSpoiled(question(), 8);
        feed(x, m, question);
        Check.eq("ask " + question + w, x.ask(), m.ask());
        faults(x, m, question);
    }

    private void image(InkLake x, Model m, String w) {
        int length = x.image();
        Check.eq("image " + w, length, m.image());
        for (int k = -1; k <= length; k++) {
            Check.eq("octet " + w, x.octet(k), m.octet(k));
        }
    }

    /** The latest image with some of its numbers changed, most often with a last byte that is right again. */
    private void on(InkLake x, Model m, String w) {
        int length = x.image();
        m.image();
        int[] bytes = new int[length];
        for (int k = 0; k < length; k++) {
            callsBeside++;
            bytes[k] = x.octet(k);
        }
        for (int k = below(3); k > 0; k--) {
            int at = below(length);
            bytes[at] = onceIn(2) ? below(4) : onceIn(2) ? below(256) : 99;
        }
        if (!onceIn(8)) {
            int c = 31;
            for (int k = 0; k < length - 1; k++) {
                c = (3 * c + bytes[k]) % 251;
            }
            bytes[length - 1] = c;
        }
        byte[] tape = new byte[onceIn(15) ? below(length) : length];
        for (int k = 0; k < tape.length; k++) {
            tape[k] = (byte) bytes[k];
        }
        feed(x, m, tape);
        Check.eq("on " + w, x.on() ? 1 : 0, m.on() ? 1 : 0);
    }

    private void seldom(InkLake x, Model m, String w) {
        switch (below(10)) {
            case 0: {
                String shore = maybeSpoiled(shore(), 2);
                feed(x, m, shore);
                Check.eq("shore " + shore, x.shore(), m.shore());
                faults(x, m, shore);
                break;
            }
            case 1: {
                int n = odd(30);
                x.feed(n, n, n, n, n);
                m.feed(n, n, n, n, n);
                Check.eq("end " + w, x.end(n) ? 1 : 0, m.end(n) ? 1 : 0);
                break;
            }
            case 2: Check.eq("on " + w, x.on() ? 1 : 0, m.on() ? 1 : 0); break;
            case 3: Check.eq("outflows " + w, x.outflows(), m.outflows()); break;
            default: {
                for (int what = 0; what < 12; what++) {
                    Check.eq("has " + what + w, x.has(what), m.has(what));
                }
            }
        }
    }
}
