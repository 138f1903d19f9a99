import java.math.BigInteger;
import java.util.ArrayDeque;
import java.util.ArrayList;
import java.util.Arrays;
import java.util.Deque;
import java.util.HashSet;
import java.util.List;
import java.util.Set;
import java.util.function.ToLongFunction;

/**
 * A plain second program of the document, for comparing: it copies all for every question, keeps texts as texts,
 * SUMS as functions, and throws at a FAULT.
 */
final class Model {
    private static final Set<String> OWN = new HashSet<>(List.of(("lake has black holds brook gives village miles deed of needs "
            + "worth by draws fades may dries reads drought season level dark ink age number term or and not all min max").split(" ")));

    /** What a SUM or a TEST is reckoned for. */
    private record Case(Told told, State state, int deed) {
    }

    private interface Sum extends ToLongFunction<Case> {
    }

    private record Brook(String name, int gives, int black) {
    }

    private record Village(String name, int miles) {
    }

    private record Deed(String name, int village, int needs, int worth, int term) {
    }

    private static final class Told {
        int has;
        int black;
        int holds;
        final List<Brook> brooks = new ArrayList<>();
        final List<Village> villages = new ArrayList<>();
        final List<Deed> deeds = new ArrayList<>();
        Sum draws;
        Sum fades;
        Sum may;
        int dries = 0;
        int reads = 1;
        int drought = 0;
        int statements;

        boolean knows(String name) {
            return brooks.stream().anyMatch(b -> b.name.equals(name)) || villages.stream().anyMatch(v -> v.name.equals(name))
                    || deeds.stream().anyMatch(d -> d.name.equals(name));
        }
    }

    private static final class Fault extends RuntimeException {
        private static final long serialVersionUID = 1;
        final int kind;
        final int place;

        Fault(int kind, int place) {
            super(null, null, false, false);
            this.kind = kind;
            this.place = place;
        }
    }

    private static final class State {
        long season;
        long buckets;
        long grains;
        // per DEED: INK and age; not there while it is not written
        long[][] written = new long[8][];
        List<long[]> kept = new ArrayList<>();

        State copy() {
            State s = new State();
            s.season = season;
            s.buckets = buckets;
            s.grains = grains;
            for (int k = 0; k < 8; k++) {
                s.written[k] = written[k] == null ? null : written[k].clone();
            }
            s.kept = new ArrayList<>(kept);
            return s;
        }

        long dark() {
            return buckets == 0 ? 0 : Math.min(9999, 100 * grains / buckets);
        }
    }

    private StringBuilder tape = new StringBuilder();
    private Told told;
    private State state = new State();
    private final Deque<State> acts = new ArrayDeque<>();
    private int faultKind = 0;
    private int faultPlace = -1;
    private final int[] refused = new int[6];
    private BigInteger x = BigInteger.ONE;
    private List<Integer> latestOutflows = new ArrayList<>();
    private int[] picture = new int[0];
    private int calls;

    /** How many calls have been made. */
    int calls() {
        return calls;
    }

    private int no(int group) {
        refused[group]++;
        return -1;
    }

    int feed(int a, int b, int c, int d, int e) {
        calls++;
        if (tape.length() > 1580) {
            return no(0);
        }
        for (int n : new int[] {a, b, c, d, e}) {
            tape.append((char) (n >>> 24)).append((char) (n >>> 16 & 255)).append((char) (n >>> 8 & 255)).append((char) (n & 255));
        }
        return tape.length();
    }

    boolean end(int n) {
        calls++;
        if (n < 0 || n > tape.length()) {
            no(0);
            return false;
        }
        tape.setLength(n);
        return true;
    }

    private String take() {
        String text = tape.toString();
        tape = new StringBuilder();
        return text;
    }

    int shore() {
        calls++;
        String text = take();
        try {
            Told t = new Text(text).shore();
            told = t;
            state = new State();
            state.buckets = t.has;
            state.grains = t.black;
            acts.clear();
            latestOutflows = new ArrayList<>();
            faultKind = 0;
            faultPlace = -1;
            return t.statements;
        } catch (Fault f) {
            faultKind = f.kind;
            faultPlace = f.place;
            return no(1);
        }
    }

    int fault(int what) {
        calls++;
        return what == 0 ? faultKind : what == 1 ? faultPlace : -1;
    }

    private int deeds() {
        return told == null ? 0 : told.deeds.size();
    }

    private boolean isDeed(int d) {
        return d >= 0 && d < deeds();
    }

    int has(int what) {
        calls++;
        long[] all = new long[12];
        if (told != null) {
            all[0] = told.brooks.size();
            all[1] = told.villages.size();
            all[2] = told.deeds.size();
            all[3] = told.holds;
        }
        all[4] = state.season;
        all[5] = state.buckets;
        all[6] = state.grains;
        all[7] = state.dark();
        all[8] = Arrays.stream(state.written).filter(w -> w != null).count();
        all[9] = Long.bitCount(readable(state));
        all[10] = state.kept.size();
        all[11] = acts.size();
        return what < 0 || what > 11 ? -1 : (int) all[what];
    }

    private long readable(State s) {
        long bits = 0;
        for (int d = 0; d < deeds(); d++) {
            if (s.written[d] != null && s.written[d][0] >= told.reads) {
                bits += 1L << d;
            }
        }
        return bits;
    }

    int letter(int kind, int which, int k) {
        calls++;
        if (told == null || kind < 0 || kind > 2 || which < 0 || k < 0 || k > 5) {
            return -1;
        }
        List<String> names = new ArrayList<>();
        if (kind == 0) {
            told.brooks.forEach(b -> names.add(b.name));
        } else if (kind == 1) {
            told.villages.forEach(v -> names.add(v.name));
        } else {
            told.deeds.forEach(d -> names.add(d.name));
        }
        if (which >= names.size()) {
            return -1;
        }
        return k < names.get(which).length() ? names.get(which).charAt(k) - 96 : 0;
    }

    int brook(int b, int what) {
        calls++;
        if (told == null || b < 0 || b >= told.brooks.size() || what < 0 || what > 1) {
            return -1;
        }
        return what == 0 ? told.brooks.get(b).gives : told.brooks.get(b).black;
    }

    private long draws(State s, int d) {
        if (told.draws == null) {
            return told.deeds.get(d).needs;
        }
        return Math.max(0, Math.min(9999, told.draws.applyAsLong(new Case(told, s, d))));
    }

    private boolean can(State s, int d) {
        return s.written[d] == null && s.season <= told.deeds.get(d).term && draws(s, d) <= s.buckets
                && (told.may == null || told.may.applyAsLong(new Case(told, s, d)) == 1);
    }

    int deed(int d, int what) {
        calls++;
        if (!isDeed(d) || what < 0 || what > 9) {
            return -1;
        }
        Deed t = told.deeds.get(d);
        long[] w = state.written[d];
        long[] all = {t.village, t.needs, t.worth, t.term, w == null ? 0 : 1, w == null ? 0 : w[0], w == null ? 99 : w[1],
            draws(state, d), can(state, d) ? 1 : 0, w != null && w[0] >= told.reads ? 1 : 0};
        return (int) all[what];
    }

    int miles(int v) {
        calls++;
        return told == null || v < 0 || v >= told.villages.size() ? -1 : told.villages.get(v).miles;
    }

    int kept(int k, int what) {
        calls++;
        return k < 0 || k >= state.kept.size() || what < 0 || what > 3 ? -1 : (int) state.kept.get(k)[what];
    }

    /** A SEASON with an OUTFLOW ahead of it, so many BUCKETS more by some BROOKS, nothing by others. */
    private long season(State s, long outflow, Set<Integer> fat, long more, Set<Integer> dry) {
        State before = s.copy();
        s.buckets = Math.max(0, s.buckets - outflow);
        for (int b = 0; b < told.brooks.size(); b++) {
            if (!dry.contains(b)) {
                s.buckets += told.brooks.get(b).gives + (fat.contains(b) ? more : 0);
                s.grains += told.brooks.get(b).black;
            }
        }
        long over = 0;
        if (s.buckets > told.holds) {
            over = s.buckets - told.holds;
            s.grains = s.grains * told.holds / s.buckets;
            s.buckets = told.holds;
        }
        s.buckets -= s.buckets * told.dries / 100;
        s.grains = Math.min(9999, s.grains);
        for (int d = 0; d < deeds(); d++) {
            if (s.written[d] != null) {
                long fades = told.fades == null ? 0 : told.fades.applyAsLong(new Case(told, before, d));
                s.written[d][0] -= Math.max(0, Math.min(before.written[d][0], fades));
                s.written[d][1] = Math.min(99, before.written[d][1] + 1);
            }
        }
        s.season++;
        return over;
    }

    private long season(State s) {
        return season(s, 0, Set.of(), 0, Set.of());
    }

    /** The lake now and AHEAD. */
    private List<State> ahead() {
        List<State> all = new ArrayList<>();
        State s = state.copy();
        all.add(s);
        while (all.size() <= 60 && s.season < 999) {
            s = s.copy();
            season(s);
            all.add(s);
        }
        return all;
    }

    int later(int n, int what) {
        calls++;
        if (told == null || n < 0 || what < 0 || what > 3 || n >= ahead().size()) {
            return -1;
        }
        State s = ahead().get(n);
        return (int) new long[] {s.buckets, s.grains, s.dark(), readable(s)}[what];
    }

    int fade(int d) {
        calls++;
        if (!isDeed(d) || state.written[d] == null) {
            return -1;
        }
        List<State> all = ahead();
        for (int n = 0; n < all.size(); n++) {
            if (all.get(n).written[d][0] < told.reads) {
                return n;
            }
        }
        return -1;
    }

    int soonest(int d) {
        calls++;
        if (isDeed(d)) {
            List<State> all = ahead();
            for (int n = 0; n < all.size(); n++) {
                if (can(all.get(n), d)) {
                    return n;
                }
            }
        }
        return -1;
    }

    int dip(int d, int what) {
        calls++;
        if (!isDeed(d) || what < 0 || what > 1) {
            return -1;
        }
        List<State> all = ahead();
        int best = -1;
        for (int n = all.size() - 1; n >= 0; n--) {
            if (can(all.get(n), d) && (best < 0 || all.get(n).dark() >= all.get(best).dark())) {
                best = n;
            }
        }
        return best < 0 ? -1 : what == 0 ? best : (int) all.get(best).dark();
    }

    int missed() {
        calls++;
        int bits = 0;
        for (int d = 0; d < deeds(); d++) {
            if (state.written[d] == null && told.deeds.get(d).term < state.season) {
                bits += 1 << d;
            }
        }
        return bits;
    }

    private void doWrite(State s, int d) {
        long ink = s.dark();
        long drawn = draws(s, d);
        long gone = drawn == 0 ? 0 : s.grains * drawn / s.buckets;
        s.written[d] = new long[] {ink, 0};
        s.grains -= gone;
        s.buckets -= drawn;
        s.kept.add(new long[] {s.season, d, ink, drawn});
    }

    int share(int what) {
        calls++;
        if (told == null || what < 0 || what > 2) {
            return -1;
        }
        List<long[]> found = new ArrayList<>();
        for (int set = 0; set < 1 << deeds(); set++) {
            State s = state.copy();
            long worth = 0;
            boolean good = true;
            for (int d = 0; d < deeds() && good; d++) {
                if ((set >> d & 1) == 1) {
                    good = can(s, d);
                    if (good) {
                        doWrite(s, d);
                        worth += told.deeds.get(d).worth;
                    }
                }
            }
            if (good) {
                found.add(new long[] {set, worth, state.buckets - s.buckets});
            }
        }
        found.sort((a, b) -> a[1] != b[1] ? Long.compare(b[1], a[1]) : a[2] != b[2] ? Long.compare(a[2], b[2]) : Long.compare(a[0], b[0]));
        return (int) found.get(0)[what];
    }

    int all(int bits) {
        calls++;
        if (told == null || bits < 0 || bits >= 1 << deeds()) {
            return -1;
        }
        Set<Integer> left = new HashSet<>();
        for (int d = 0; d < 8; d++) {
            if ((bits >> d & 1) == 1) {
                left.add(d);
                if (state.written[d] != null) {
                    return -1;
                }
            }
        }
        State s = state.copy();
        for (int n = 0; n <= 60 && s.season <= 999; n++) {
            for (int d = 0; d < 8; d++) {
                if (left.contains(d) && can(s, d)) {
                    doWrite(s, d);
                    left.remove(d);
                }
            }
            if (left.isEmpty()) {
                return n;
            }
            season(s);
        }
        return -1;
    }

    int thinned(int more, int buckets, int dark, int what) {
        calls++;
        if (told == null || more < 1 || more > 999 || buckets < 0 || buckets > 9999 || dark < -1 || dark > 9999 || what < 0 || what > 2
                || state.season == 999) {
            return -1;
        }
        int sets = 0;
        Set<Integer> every = null;
        Set<Integer> some = new HashSet<>();
        for (int set = 0; set < 1 << told.brooks.size(); set++) {
            Set<Integer> fat = new HashSet<>();
            for (int b = 0; b < 6; b++) {
                if ((set >> b & 1) == 1) {
                    fat.add(b);
                }
            }
            State s = state.copy();
            season(s, 0, fat, more, Set.of());
            if (s.buckets == buckets && (dark == -1 || s.dark() == dark)) {
                sets++;
                some.addAll(fat);
                if (every == null) {
                    every = new HashSet<>(fat);
                }
                every.retainAll(fat);
            }
        }
        if (what == 0) {
            return sets;
        }
        return (what == 2 ? some : every == null ? new HashSet<Integer>() : every).stream().mapToInt(b -> 1 << b).sum();
    }

    int outflows() {
        calls++;
        String rows = take();
        if (told == null || rows.length() % 2 == 1 || rows.isEmpty() || rows.length() > 20 || state.season + rows.length() / 2 > 999) {
            return no(1);
        }
        latestOutflows = new ArrayList<>();
        for (int outflow = 0; outflow < 1000; outflow++) {
            State s = state.copy();
            boolean like = true;
            for (int k = 0; k < rows.length() && like; k += 2) {
                season(s, outflow, Set.of(), 0, Set.of());
                like = s.buckets == rows.charAt(k) * 256 + rows.charAt(k + 1);
            }
            if (like) {
                latestOutflows.add(outflow);
            }
        }
        return latestOutflows.size();
    }

    int outflow(int what) {
        calls++;
        if (latestOutflows.isEmpty() || what < 0 || what > 1) {
            return -1;
        }
        return latestOutflows.get(what == 0 ? 0 : latestOutflows.size() - 1);
    }

    int brief(int d) {
        calls++;
        if (!isDeed(d)) {
            return -1;
        }
        String name = told.deeds.get(d).name;
        for (int k = 1; k < name.length(); k++) {
            String begin = name.substring(0, k);
            if (told.deeds.stream().filter(o -> o.name.startsWith(begin)).count() == 1) {
                return k;
            }
        }
        return name.length();
    }

    private void remember() {
        acts.addLast(state.copy());
        if (acts.size() > 20) {
            acts.removeFirst();
        }
    }

    int write(int d) {
        calls++;
        if (!isDeed(d) || !can(state, d)) {
            return no(2);
        }
        remember();
        doWrite(state, d);
        return (int) state.written[d][0];
    }

    int pour(int grains) {
        calls++;
        if (told == null || grains < 1 || grains > 999 || state.grains + grains > 9999) {
            return no(2);
        }
        remember();
        state.grains += grains;
        return (int) state.grains;
    }

    int seasons(int n) {
        calls++;
        if (told == null || n < 1 || n > 100 || state.season + n > 999) {
            return no(3);
        }
        remember();
        long over = 0;
        for (int k = 0; k < n; k++) {
            over += season(state);
        }
        return (int) over;
    }

    private int draw(int m) {
        x = x.multiply(BigInteger.valueOf(1103515245)).add(BigInteger.valueOf(12345)).mod(BigInteger.TWO.pow(31));
        return x.divide(BigInteger.valueOf(64)).mod(BigInteger.valueOf(m)).intValue();
    }

    int years(int n) {
        calls++;
        if (told == null || n < 1 || n > 100 || state.season + n > 999) {
            return no(3);
        }
        remember();
        int nothing = 0;
        for (int k = 0; k < n; k++) {
            Set<Integer> dry = new HashSet<>();
            for (int b = 0; b < told.brooks.size(); b++) {
                if (draw(100) < told.drought) {
                    dry.add(b);
                }
            }
            nothing += dry.size();
            season(state, 0, Set.of(), 0, dry);
        }
        return nothing;
    }

    boolean undo() {
        calls++;
        if (acts.isEmpty()) {
            no(4);
            return false;
        }
        state = acts.removeLast();
        return true;
    }

    boolean seed(int s) {
        calls++;
        if (s < 0) {
            no(5);
            return false;
        }
        x = BigInteger.valueOf(s);
        return true;
    }

    long ask() {
        calls++;
        String text = take();
        if (told == null) {
            return InkLake.NOTHING;
        }
        Text q = new Text(text);
        try {
            String asked = q.question();
            faultKind = 0;
            faultPlace = -1;
            List<Long> values = new ArrayList<>();
            for (int d = 0; d < deeds(); d++) {
                values.add(q.asked.applyAsLong(new Case(told, state, d)));
            }
            switch (asked) {
                case "first": return values.indexOf(1L);
                case "last": return values.lastIndexOf(1L);
                case "often": return values.stream().filter(v -> v == 1).count();
                case "total": return values.stream().mapToLong(v -> v).sum();
                case "most": return values.stream().mapToLong(v -> v).max().orElse(0);
                default: return values.stream().mapToLong(v -> v).min().orElse(0);
            }
        } catch (Fault f) {
            faultKind = f.kind;
            faultPlace = f.place;
            return InkLake.NOTHING;
        }
    }

    private int[] draw(State s, int deeds) {
        List<Long> bytes = new ArrayList<>();
        for (long n : new long[] {s.season, s.buckets, s.grains}) {
            bytes.add(n / 256);
            bytes.add(n % 256);
        }
        for (int d = 0; d < deeds; d++) {
            long[] w = s.written[d];
            bytes.addAll(w == null ? List.of(0L, 0L, 0L, 99L) : List.of(1L, w[0] / 256, w[0] % 256, w[1]));
        }
        long c = 31;
        for (long b : bytes) {
            c = (3 * c + b) % 251;
        }
        bytes.add(c);
        return bytes.stream().mapToInt(Long::intValue).toArray();
    }

    int image() {
        calls++;
        picture = draw(state, deeds());
        return picture.length;
    }

    int octet(int k) {
        calls++;
        return k < 0 || k >= picture.length ? -1 : picture[k];
    }

    /** Reads the bytes into a state, and looks whether that state would be drawn so. */
    boolean on() {
        calls++;
        int[] bytes = take().chars().toArray();
        if (told == null || bytes.length != 7 + 4 * deeds()) {
            no(5);
            return false;
        }
        State s = new State();
        s.season = bytes[0] * 256 + bytes[1];
        s.buckets = bytes[2] * 256 + bytes[3];
        s.grains = bytes[4] * 256 + bytes[5];
        boolean good = s.season <= 999 && s.buckets <= told.holds && s.grains <= 9999;
        for (int d = 0; d < deeds(); d++) {
            int at = 6 + 4 * d;
            if (bytes[at] != 0) {
                s.written[d] = new long[] {bytes[at + 1] * 256 + bytes[at + 2], bytes[at + 3]};
                good = good && s.written[d][0] <= 9999 && s.written[d][1] <= 99;
            }
        }
        if (!good || !Arrays.equals(bytes, draw(s, deeds()))) {
            no(5);
            return false;
        }
        state = s;
        acts.clear();
        return true;
    }

    int status(int what) {
        calls++;
        return what < 0 || what > 5 ? -1 : refused[what];
    }

    /** A text that is read from the left on, sign by sign. */
    private static final class Text {
        private static final String ALWAYS = " needs worth miles season ";
        private final String text;
        private int at = 0;
        private int open = 0;
        private String parts = "";
        private Told into;
        Sum asked;

        Text(String text) {
            this.text = text;
        }

        private char sign() {
            while (at < text.length() && (text.charAt(at) == ' ' || text.charAt(at) == '\n')) {
                at++;
            }
            return at < text.length() ? text.charAt(at) : (char) 999;
        }

        private static boolean letter(char c) {
            return "abcdefghijklmnopqrstuvwxyz".indexOf(c) >= 0;
        }

        private static boolean digit(char c) {
            return "0123456789".indexOf(c) >= 0;
        }

        private Fault no() {
            sign();
            return new Fault(1, at);
        }

        /** What stands next, whole: a word, a number, a sign, or nothing at the end or where a blank is missing. */
        private String peek() {
            char c = sign();
            if (c == 999) {
                return "";
            }
            if (!letter(c) && !digit(c)) {
                return "" + c;
            }
            char before = at > 0 ? text.charAt(at - 1) : ' ';
            if (letter(before) || digit(before)) {
                return "";
            }
            int end = at;
            while (end < text.length() && (letter(c) ? letter(text.charAt(end)) : digit(text.charAt(end)))) {
                end++;
            }
            return text.substring(at, end);
        }

        private boolean goes(String what) {
            if (!peek().equals(what)) {
                return false;
            }
            at += what.length();
            return true;
        }

        private void must(String what) {
            if (!goes(what)) {
                throw no();
            }
        }

        private boolean anyOf(String all) {
            String next = peek();
            return !next.isEmpty() && !next.equals(" ") && all.contains(" " + next + " ");
        }

        private int number(int least, int most) {
            String n = peek();
            if (n.isEmpty() || !digit(n.charAt(0))) {
                throw no();
            }
            if (n.length() > 4) {
                throw new Fault(1, at + 4);
            }
            int value = Integer.parseInt(n);
            if (value < least || value > most) {
                throw new Fault(2, at);
            }
            at += n.length();
            return value;
        }

        private String name() {
            String n = peek();
            if (n.isEmpty() || !letter(n.charAt(0)) || OWN.contains(n)) {
                throw no();
            }
            if (n.length() > 6) {
                throw new Fault(1, at + 6);
            }
            return n;
        }

        private String newName() {
            String n = name();
            if (into.knows(n)) {
                throw new Fault(3, at);
            }
            at += n.length();
            return n;
        }

        private int village() {
            String n = name();
            for (int v = 0; v < into.villages.size(); v++) {
                if (into.villages.get(v).name.equals(n)) {
                    at += n.length();
                    return v;
                }
            }
            throw new Fault(3, at);
        }

        Told shore() {
            into = new Told();
            must("lake");
            must("has");
            into.has = number(0, 9999);
            must("black");
            into.black = number(0, 9999);
            must("holds");
            into.holds = number(Math.max(1, into.has), 9999);
            must(";");
            into.statements = 1;
            while (sign() != 999) {
                if (into.statements == 70) {
                    throw new Fault(5, at);
                }
                statement();
                must(";");
                into.statements++;
            }
            return into;
        }

        private void few(boolean full) {
            if (full) {
                throw new Fault(5, at);
            }
            at += peek().length();
        }

        private void statement() {
            switch (peek()) {
                case "brook": {
                    few(into.brooks.size() == 6);
                    String name = newName();
                    must("gives");
                    int gives = number(0, 999);
                    must("black");
                    into.brooks.add(new Brook(name, gives, number(0, 999)));
                    break;
                }
                case "village": {
                    few(into.villages.size() == 6);
                    String name = newName();
                    must("miles");
                    into.villages.add(new Village(name, number(0, 99)));
                    break;
                }
                case "deed": {
                    few(into.deeds.size() == 8);
                    String name = newName();
                    must("of");
                    int village = village();
                    must("needs");
                    int needs = number(1, 999);
                    must("worth");
                    int worth = number(0, 99);
                    must("by");
                    into.deeds.add(new Deed(name, village, needs, worth, number(0, 99)));
                    break;
                }
                case "draws":
                    few(into.draws != null);
                    parts = ALWAYS + "level dark ";
                    into.draws = sum();
                    break;
                case "fades":
                    few(into.fades != null);
                    parts = ALWAYS + "ink age ";
                    into.fades = sum();
                    break;
                case "may":
                    few(into.may != null);
                    parts = ALWAYS + "level dark ";
                    into.may = test();
                    break;
                case "dries":
                    few(false);
                    into.dries = number(0, 100);
                    break;
                case "reads":
                    few(false);
                    into.reads = number(0, 9999);
                    break;
                case "drought":
                    few(false);
                    into.drought = number(0, 100);
                    break;
                default:
                    throw no();
            }
        }

        String question() {
            parts = ALWAYS + "number term draws ink age by ";
            String word = peek();
            if (anyOf(" first last often ")) {
                at += word.length();
                asked = test();
            } else if (anyOf(" total most least ")) {
                at += word.length();
                asked = sum();
            } else {
                throw no();
            }
            if (sign() != 999) {
                throw no();
            }
            return word;
        }

        private void open(String what) {
            if (!peek().equals(what)) {
                throw no();
            }
            if (open == 6) {
                throw new Fault(4, at);
            }
            open++;
            at += what.length();
        }

        private void close(String what) {
            must(what);
            open--;
        }

        private Sum test() {
            Sum left = both();
            while (goes("or")) {
                Sum a = left;
                Sum b = both();
                left = c -> a.applyAsLong(c) + b.applyAsLong(c) > 0 ? 1 : 0;
            }
            return left;
        }

        private Sum both() {
            Sum left = fact();
            while (goes("and")) {
                Sum a = left;
                Sum b = fact();
                left = c -> a.applyAsLong(c) * b.applyAsLong(c);
            }
            return left;
        }

        private Sum fact() {
            if (peek().equals("not")) {
                open("not");
                Sum a = fact();
                open--;
                return c -> 1 - a.applyAsLong(c);
            }
            if (peek().equals("[")) {
                open("[");
                Sum a = test();
                close("]");
                return a;
            }
            if (goes("all")) {
                return c -> 1;
            }
            Sum a = sum();
            String sign = peek();
            if (!anyOf(" < > = ")) {
                throw no();
            }
            at++;
            Sum b = sum();
            return c -> {
                int than = Long.compare(a.applyAsLong(c), b.applyAsLong(c));
                return than == (sign.equals("<") ? -1 : sign.equals(">") ? 1 : 0) ? 1 : 0;
            };
        }

        private static long held(long n) {
            return n > 1000000 ? 1000000 : n < -1000000 ? -1000000 : n;
        }

        private static long divided(long a, long b) {
            if (b == 0) {
                return 0;
            }
            long q = a / b;
            return q * b != a && (a < 0) != (b < 0) ? q - 1 : q;
        }

        private Sum sum() {
            Sum left = product();
            while (anyOf(" + - ")) {
                boolean plus = sign() == '+';
                at++;
                Sum a = left;
                Sum b = product();
                left = c -> held(a.applyAsLong(c) + (plus ? 1 : -1) * b.applyAsLong(c));
            }
            return left;
        }

        private Sum product() {
            Sum left = part();
            while (anyOf(" * / ")) {
                boolean times = sign() == '*';
                at++;
                Sum a = left;
                Sum b = part();
                left = c -> times ? held(a.applyAsLong(c) * b.applyAsLong(c)) : divided(a.applyAsLong(c), b.applyAsLong(c));
            }
            return left;
        }

        private Sum part() {
            String next = peek();
            if (!next.isEmpty() && digit(next.charAt(0))) {
                long n = number(0, 9999);
                return c -> n;
            }
            if (next.equals("(")) {
                open("(");
                Sum a = sum();
                close(")");
                return a;
            }
            if (goes("min") || goes("max")) {
                boolean least = next.equals("min");
                open("(");
                Sum a = sum();
                must(",");
                Sum b = sum();
                close(")");
                return c -> least ? Math.min(a.applyAsLong(c), b.applyAsLong(c)) : Math.max(a.applyAsLong(c), b.applyAsLong(c));
            }
            if (!anyOf(parts)) {
                throw no();
            }
            if (next.equals("by")) {
                open("by");
                Sum a = part();
                open--;
                return c -> a.applyAsLong(c) == deed(c).village ? 1 : 0;
            }
            at += next.length();
            return named(next);
        }

        private static Deed deed(Case c) {
            return c.told.deeds.get(c.deed);
        }

        private static long[] written(Case c) {
            long[] w = c.state.written[c.deed];
            return w == null ? new long[] {0, 99} : w;
        }

        private static Sum named(String word) {
            switch (word) {
                case "needs": return c -> deed(c).needs;
                case "worth": return c -> deed(c).worth;
                case "miles": return c -> c.told.villages.get(deed(c).village).miles;
                case "season": return c -> c.state.season;
                case "level": return c -> c.state.buckets;
                case "dark": return c -> c.state.dark();
                case "ink": return c -> written(c)[0];
                case "age": return c -> written(c)[1];
                case "number": return c -> c.deed;
                case "term": return c -> deed(c).term;
                default: return c -> {
                    if (c.told.draws == null) {
                        return deed(c).needs;
                    }
                    return Math.max(0, Math.min(9999, c.told.draws.applyAsLong(c)));
                };
            }
        }
    }
}
