/**
 * A lake of ink with its brooks, its villages and the deeds that are to be written from it.
 * What each call answers is told, promise by promise, in ../shared/DOC.md.
 */
public final class InkLake {
    public static final int NONE = -1;
    public static final long NOTHING = -1000000000000000L;

    private static final int TAPE_MOST = 1600;
    private static final int STATEMENTS_MOST = 70;
    private static final int BROOKS_MOST = 6;
    private static final int VILLAGES_MOST = 6;
    private static final int DEEDS_MOST = 8;
    private static final int NAME_MOST = 6;
    private static final int NAMES_MOST = BROOKS_MOST + VILLAGES_MOST + DEEDS_MOST;
    private static final int DIGITS_MOST = 4;
    private static final int OPEN_MOST = 6;
    private static final int STACK_MOST = 64;
    private static final int SUM_MOST = 1000000;
    private static final int AMOUNT_MOST = 9999;
    private static final int SHARE_MOST = 999;
    private static final int AGE_MOST = 99;
    private static final int SEASON_MOST = 999;
    private static final int AHEAD_MOST = 60;
    private static final int PASSED_MOST = 100;
    private static final int HUNDRED = 100;
    private static final int KEPT_MOST = 40;
    private static final int KEPT_PARTS = 4;
    private static final int ACTS_MOST = 20;
    private static final int OUTFLOW_ROWS_MOST = 10;
    private static final int IMAGE_HEAD = 6;
    private static final int IMAGE_DEED = 4;
    private static final int IMAGE_MOST = IMAGE_HEAD + IMAGE_DEED * DEEDS_MOST + 1;

    private static final int BROOKS = 0;
    private static final int VILLAGES = 1;
    private static final int DEEDS = 2;
    private static final int KINDS = 3;

    private static final int RULE_DRAWS = 0;
    private static final int RULE_FADES = 1;
    private static final int RULE_MAY = 2;
    private static final int RULE_ASKED = 3;
    private static final int RULES = 4;

    private static final int REFUSED_TAPE = 0;
    private static final int REFUSED_TEXT = 1;
    private static final int REFUSED_ACT = 2;
    private static final int REFUSED_SEASON = 3;
    private static final int REFUSED_UNDO = 4;
    private static final int REFUSED_STATE = 5;
    private static final int REFUSALS = 6;

    private static final int FAULT_TEXT = 1;
    private static final int FAULT_NUMBER = 2;
    private static final int FAULT_NAME = 3;
    private static final int FAULT_OPEN = 4;
    private static final int FAULT_MANY = 5;

    // The OWN WORDS in the document's order, then the six words that begin a QUESTION, which are NAMES elsewhere.
    private static final String WORDS = "lake has black holds brook gives village miles deed of needs worth by draws fades may dries reads drought season level dark ink age number term or and not all min max first last often total most least ";
    // A mark of a text is a sign's own byte, or one of these: WORDS by their order from LAKE on, then the rest.
    private static final int LAKE = 300;
    private static final int HAS = 301;
    private static final int BLACK = 302;
    private static final int HOLDS = 303;
    private static final int BROOK = 304;
    private static final int GIVES = 305;
    private static final int VILLAGE = 306;
    private static final int MILES = 307;
    private static final int DEED = 308;
    private static final int OF = 309;
    private static final int NEEDS = 310;
    private static final int WORTH = 311;
    private static final int BY = 312;
    private static final int DRAWS = 313;
    private static final int FADES = 314;
    private static final int MAY = 315;
    private static final int DRIES = 316;
    private static final int READS = 317;
    private static final int DROUGHT = 318;
    private static final int SEASON = 319;
    private static final int LEVEL = 320;
    private static final int DARK = 321;
    private static final int INK = 322;
    private static final int AGE = 323;
    private static final int NUMBER = 324;
    private static final int TERM = 325;
    private static final int OR = 326;
    private static final int AND = 327;
    private static final int NOT = 328;
    private static final int ALL = 329;
    private static final int MIN = 330;
    private static final int MAX = 331;
    private static final int FIRST = 332;
    private static final int LAST = 333;
    private static final int OFTEN = 334;
    private static final int TOTAL = 335;
    private static final int MOST = 336;
    private static final int LEAST = 337;
    private static final int OTHER_WORD = 338;
    private static final int DIGITS = 339;
    private static final int GLUED = 340;
    private static final int TEXT_END = 341;
    // In a reckoning, a number n stands as NUMBERS_FROM + n, above all marks.
    private static final int NUMBERS_FROM = 1000;

    private final int[] tape = new int[TAPE_MOST];
    private int tapeLength;
    private final Reader reader = new Reader(tape);
    private Shore shore = new Shore();
    private Shore spare = new Shore();
    private final Lake now = new Lake();
    private final Lake ahead = new Lake();
    private final Rules rules = new Rules();
    private final Acts acts = new Acts();
    private final Share shared = new Share();
    private final Sums question = new Sums();
    private final int[][] keptRows = new int[KEPT_MOST][KEPT_PARTS];
    private final int[] picture = new int[IMAGE_MOST];
    private int pictureLength;
    private int outflowLeast = NONE;
    private int outflowMost = NONE;
    private final int[] refused = new int[REFUSALS];
    private long seedNow = 1;

    public InkLake() {
        rules.shore = shore;
    }

    public int feed(int a, int b, int c, int d, int e) {
        if (tapeLength + 20 > TAPE_MOST) {
            return refuse(REFUSED_TAPE);
        }
        putNumber(a);
        putNumber(b);
        putNumber(c);
        putNumber(d);
        putNumber(e);
        return tapeLength;
    }

    public boolean end(int n) {
        if (n < 0 || n > tapeLength) {
            refuse(REFUSED_TAPE);
            return false;
        }
        tapeLength = n;
        return true;
    }

    public int shore() {
        int statements = 1;
        reader.begin(takeTape());
        reader.readLake(spare);
        while (statements <= STATEMENTS_MOST && reader.goesOn()) {
            reader.readStatement(spare, statements);
            statements++;
        }
        if (reader.fault != 0) {
            return refuse(REFUSED_TEXT);
        }
        Shore before = shore;
        shore = spare;
        spare = before;
        rules.shore = shore;
        now.begin(shore.buckets, shore.grains);
        acts.forget();
        outflowLeast = NONE;
        outflowMost = NONE;
        return statements;
    }

    public int fault(int what) {
        switch (what) {
            case 0: return reader.fault;
            case 1: return reader.place;
            default: return NONE;
        }
    }

    public int has(int what) {
        switch (what) {
            case 0: return shore.counts[BROOKS];
            case 1: return shore.counts[VILLAGES];
            case 2: return shore.counts[DEEDS];
            case 3: return shore.holds;
            case 4: return now.season;
            case 5: return now.buckets;
            case 6: return now.grains;
            case 7: return now.darkness();
            case 8: return Integer.bitCount(now.written);
            case 9: return Integer.bitCount(rules.readable(now));
            case 10: return now.keptCount;
            case 11: return acts.count;
            default: return NONE;
        }
    }

    public int letter(int kind, int which, int k) {
        if (kind < 0 || kind >= KINDS || which < 0 || which >= shore.counts[kind] || k < 0 || k >= NAME_MOST) {
            return NONE;
        }
        return shore.letters[Shore.rowOf(kind, which) * NAME_MOST + k];
    }

    public int brook(int brook, int what) {
        if (brook < 0 || brook >= shore.counts[BROOKS]) {
            return NONE;
        }
        switch (what) {
            case 0: return shore.gives[brook];
            case 1: return shore.blacks[brook];
            default: return NONE;
        }
    }

    public int deed(int deed, int what) {
        if (!isDeed(deed)) {
            return NONE;
        }
        switch (what) {
            case 0: return shore.village[deed];
            case 1: return shore.needs[deed];
            case 2: return shore.worth[deed];
            case 3: return shore.term[deed];
            case 4: return now.isWritten(deed) ? 1 : 0;
            case 5: return now.ink[deed];
            case 6: return now.age[deed];
            case 7: return rules.drawnBy(now, deed);
            case 8: return rules.canBe(now, deed) ? 1 : 0;
            case 9: return rules.readable(now) >> deed & 1;
            default: return NONE;
        }
    }

    public int miles(int village) {
        return village < 0 || village >= shore.counts[VILLAGES] ? NONE : shore.miles[village];
    }

    public int kept(int k, int what) {
        if (k < 0 || k >= now.keptCount || what < 0 || what >= KEPT_PARTS) {
            return NONE;
        }
        return keptRows[k][what];
    }

    // ---- ahead

    public int later(int n, int what) {
        if (!shore.told || n < 0 || n > seasonsAhead()) {
            return NONE;
        }
        ahead.copyOf(now);
        for (int k = 0; k < n; k++) {
            rules.passSeason(ahead, 0);
        }
        switch (what) {
            case 0: return ahead.buckets;
            case 1: return ahead.grains;
            case 2: return ahead.darkness();
            case 3: return rules.readable(ahead);
            default: return NONE;
        }
    }

    public int fade(int deed) {
        if (!isDeed(deed) || !now.isWritten(deed)) {
            return NONE;
        }
        int most = seasonsAhead();
        ahead.copyOf(now);
        for (int n = 0; n <= most; n++) {
            if ((rules.readable(ahead) >> deed & 1) == 0) {
                return n;
            }
            rules.passSeason(ahead, 0);
        }
        return NONE;
    }

    public int soonest(int deed) {
        if (!isDeed(deed)) {
            return NONE;
        }
        int most = seasonsAhead();
        ahead.copyOf(now);
        for (int n = 0; n <= most; n++) {
            if (rules.canBe(ahead, deed)) {
                return n;
            }
            rules.passSeason(ahead, 0);
        }
        return NONE;
    }

    public int dip(int deed, int what) {
        if (!isDeed(deed) || what < 0 || what > 1) {
            return NONE;
        }
        int best = NONE;
        int blackest = NONE;
        int most = seasonsAhead();
        ahead.copyOf(now);
        for (int n = 0; n <= most; n++) {
            if (rules.canBe(ahead, deed) && ahead.darkness() > blackest) {
                best = n;
                blackest = ahead.darkness();
            }
            rules.passSeason(ahead, 0);
        }
        return what == 0 ? best : blackest;
    }

    public int missed() {
        int bits = 0;
        for (int deed = 0; deed < shore.counts[DEEDS]; deed++) {
            if (!now.isWritten(deed) && now.season > shore.term[deed]) {
                bits |= 1 << deed;
            }
        }
        return bits;
    }

    // ---- shares, thinners, outflows, words

    public int share(int what) {
        if (!shore.told || what < 0 || what > 2) {
            return NONE;
        }
        shared.begin(now);
        chooseFrom(0);
        switch (what) {
            case 0: return shared.bestBits;
            case 1: return shared.bestWorth;
            default: return shared.bestDrawn;
        }
    }

    public int all(int deeds) {
        if (!shore.told || deeds < 0 || deeds >= 1 << shore.counts[DEEDS] || (deeds & now.written) != 0) {
            return NONE;
        }
        int most = seasonsAhead();
        ahead.copyOf(now);
        for (int n = 0; n <= most; n++) {
            rules.writeThose(ahead, deeds);
            if ((deeds & ~ahead.written) == 0) {
                return n;
            }
            rules.passSeason(ahead, 0);
        }
        return NONE;
    }

    public int thinned(int more, int buckets, int dark, int what) {
        if (!shore.told || what < 0 || what > 2 || now.season >= SEASON_MOST) {
            return NONE;
        }
        if (more < 1 || more > SHARE_MOST || isNoAmount(buckets) || dark != NONE && isNoAmount(dark)) {
            return NONE;
        }
        int sets = 0;
        int inAll = NONE;
        int inSome = 0;
        for (int set = 0; set < 1 << shore.counts[BROOKS]; set++) {
            ahead.copyOf(now);
            ahead.buckets += more * Integer.bitCount(set);
            rules.fill(ahead, 0);
            if (ahead.buckets == buckets && (dark == NONE || ahead.darkness() == dark)) {
                sets++;
                inAll &= set;
                inSome |= set;
            }
        }
        switch (what) {
            case 0: return sets;
            case 1: return sets == 0 ? 0 : inAll;
            default: return inSome;
        }
    }

    public int outflows() {
        int length = takeTape();
        int rows = length / 2;
        if (!shore.told || length % 2 != 0 || rows < 1 || rows > OUTFLOW_ROWS_MOST
                || now.season + rows > SEASON_MOST) {
            return refuse(REFUSED_TEXT);
        }
        int found = 0;
        outflowLeast = NONE;
        outflowMost = NONE;
        for (int outflow = 0; outflow <= SHARE_MOST; outflow++) {
            if (tellsOutflow(outflow, rows)) {
                found++;
                outflowLeast = found == 1 ? outflow : outflowLeast;
                outflowMost = outflow;
            }
        }
        return found;
    }

    public int outflow(int what) {
        switch (what) {
            case 0: return outflowLeast;
            case 1: return outflowMost;
            default: return NONE;
        }
    }

    public int brief(int deed) {
        if (!isDeed(deed)) {
            return NONE;
        }
        int length = shore.lengthOf(DEEDS, deed);
        for (int letters = 1; letters < length; letters++) {
            if (shore.isAlone(deed, letters)) {
                return letters;
            }
        }
        return length;
    }

    // ---- acts

    public int write(int deed) {
        if (!isDeed(deed) || !rules.canBe(now, deed)) {
            return refuse(REFUSED_ACT);
        }
        acts.remember(now);
        int drawn = rules.drawnBy(now, deed);
        now.draw(deed, drawn);
        keep(deed, drawn);
        return now.ink[deed];
    }

    public int pour(int grains) {
        if (!shore.told || grains < 1 || grains > SHARE_MOST || now.grains + grains > AMOUNT_MOST) {
            return refuse(REFUSED_ACT);
        }
        acts.remember(now);
        now.grains += grains;
        return now.grains;
    }

    public int seasons(int n) {
        if (!canPass(n)) {
            return refuse(REFUSED_SEASON);
        }
        acts.remember(now);
        int over = 0;
        for (int k = 0; k < n; k++) {
            over += rules.passSeason(now, 0);
        }
        return over;
    }

    public int years(int n) {
        if (!canPass(n)) {
            return refuse(REFUSED_SEASON);
        }
        acts.remember(now);
        int nothings = 0;
        for (int k = 0; k < n; k++) {
            int dry = drawDryBrooks();
            nothings += Integer.bitCount(dry);
            rules.passSeason(now, dry);
        }
        return nothings;
    }

    public boolean undo() {
        if (acts.count == 0) {
            refuse(REFUSED_UNDO);
            return false;
        }
        acts.recall(now);
        return true;
    }

    public boolean seed(int seed) {
        if (seed < 0) {
            refuse(REFUSED_STATE);
            return false;
        }
        seedNow = seed;
        return true;
    }

    // ---- questions

    public long ask() {
        int length = takeTape();
        if (!shore.told) {
            return NOTHING;
        }
        reader.begin(length);
        int asked = reader.readQuestion(question);
        if (reader.fault != 0) {
            return NOTHING;
        }
        switch (asked) {
            case FIRST:
            case LAST:
            case OFTEN: return answerTest(asked);
            default: return answerSum(asked);
        }
    }

    // ---- images, refusals

    public int image() {
        pictureLength = 0;
        putPair(now.season);
        putPair(now.buckets);
        putPair(now.grains);
        for (int deed = 0; deed < shore.counts[DEEDS]; deed++) {
            putOctet(now.isWritten(deed) ? 1 : 0);
            putPair(now.ink[deed]);
            putOctet(now.age[deed]);
        }
        putOctet(checkOf(picture, pictureLength));
        return pictureLength;
    }

    public int octet(int k) {
        return k < 0 || k >= pictureLength ? NONE : picture[k];
    }

    public boolean on() {
        if (!isImage(takeTape())) {
            refuse(REFUSED_STATE);
            return false;
        }
        now.begin(pairAt(2), pairAt(4));
        now.season = pairAt(0);
        for (int deed = 0; deed < shore.counts[DEEDS]; deed++) {
            int at = IMAGE_HEAD + IMAGE_DEED * deed;
            now.written |= tape[at] << deed;
            now.ink[deed] = pairAt(at + 1);
            now.age[deed] = tape[at + 3];
        }
        acts.forget();
        return true;
    }

    public int status(int what) {
        return what < 0 || what >= REFUSALS ? NONE : refused[what];
    }

    private int refuse(int group) {
        refused[group]++;
        return NONE;
    }

    private void putNumber(int number) {
        for (int shift = 24; shift >= 0; shift -= 8) {
            tape[tapeLength] = number >> shift & 255;
            tapeLength++;
        }
    }

    /** The tape goes: its bytes are read in the same call, so its length alone is handed on. */
    private int takeTape() {
        int length = tapeLength;
        tapeLength = 0;
        return length;
    }

    private int pairAt(int at) {
        return tape[at] * 256 + tape[at + 1];
    }

    private boolean isDeed(int deed) {
        return deed >= 0 && deed < shore.counts[DEEDS];
    }

    private static boolean isNoAmount(int number) {
        return number < 0 || number > AMOUNT_MOST;
    }

    private int seasonsAhead() {
        return Math.min(AHEAD_MOST, SEASON_MOST - now.season);
    }

    private boolean canPass(int n) {
        return shore.told && n >= 1 && n <= PASSED_MOST && now.season + n <= SEASON_MOST;
    }

    private boolean tellsOutflow(int outflow, int rows) {
        ahead.buckets = now.buckets;
        ahead.grains = now.grains;
        for (int row = 0; row < rows; row++) {
            ahead.buckets = Math.max(0, ahead.buckets - outflow);
            rules.fill(ahead, 0);
            if (ahead.buckets != pairAt(2 * row)) {
                return false;
            }
        }
        return true;
    }

    /** Each DEED from this one on is left or written: a DEED a level, so it goes no deeper than DEEDS_MOST. */
    private void chooseFrom(int deed) {
        if (deed >= shore.counts[DEEDS] || deed >= DEEDS_MOST) {
            shared.compare();
            return;
        }
        chooseFrom(deed + 1);
        Lake trial = shared.trial;
        if (rules.canBe(trial, deed)) {
            int buckets = trial.buckets;
            int grains = trial.grains;
            int drawn = rules.drawnBy(trial, deed);
            trial.draw(deed, drawn);
            shared.bits |= 1 << deed;
            shared.worth += shore.worth[deed];
            shared.drawn += drawn;
            chooseFrom(deed + 1);
            shared.drawn -= drawn;
            shared.worth -= shore.worth[deed];
            shared.bits &= ~(1 << deed);
            trial.written &= ~(1 << deed);
            trial.grains = grains;
            trial.buckets = buckets;
        }
    }

    /** A DEED is written once in all, so the rows never fill: the test is there for the index alone. */
    private void keep(int deed, int drawn) {
        if (now.keptCount < KEPT_MOST) {
            int[] row = keptRows[now.keptCount];
            row[0] = now.season;
            row[1] = deed;
            row[2] = now.ink[deed];
            row[3] = drawn;
            now.keptCount++;
        }
    }

    private int drawDryBrooks() {
        int dry = 0;
        for (int brook = 0; brook < shore.counts[BROOKS]; brook++) {
            if (drawOfHundred() < shore.drought) {
                dry |= 1 << brook;
            }
        }
        return dry;
    }

    private int drawOfHundred() {
        seedNow = (1103515245L * seedNow + 12345L) % 0x80000000L;
        return (int) (seedNow / 64 % HUNDRED);
    }

    private int reckonAsked(int deed) {
        rules.drawn = rules.drawnBy(now, deed);
        return rules.reckon(question, RULE_ASKED, now, deed);
    }

    private long answerTest(int asked) {
        int first = NONE;
        int last = NONE;
        int often = 0;
        for (int deed = 0; deed < shore.counts[DEEDS]; deed++) {
            if (reckonAsked(deed) != 0) {
                first = often == 0 ? deed : first;
                last = deed;
                often++;
            }
        }
        switch (asked) {
            case FIRST: return first;
            case LAST: return last;
            default: return often;
        }
    }

    private long answerSum(int asked) {
        long total = 0;
        int most = 0;
        int least = 0;
        for (int deed = 0; deed < shore.counts[DEEDS]; deed++) {
            int value = reckonAsked(deed);
            total += value;
            most = deed == 0 ? value : Math.max(most, value);
            least = deed == 0 ? value : Math.min(least, value);
        }
        switch (asked) {
            case TOTAL: return total;
            case MOST: return most;
            default: return least;
        }
    }

    private void putOctet(int octet) {
        if (pictureLength < IMAGE_MOST) {
            picture[pictureLength] = octet;
            pictureLength++;
        }
    }

    private void putPair(int number) {
        putOctet(number >> 8);
        putOctet(number & 255);
    }

    private static int checkOf(int[] octets, int length) {
        int c = 31;
        for (int k = 0; k < length && k < octets.length; k++) {
            c = (3 * c + octets[k]) % 251;
        }
        return c;
    }

    private boolean isImage(int length) {
        int deeds = shore.counts[DEEDS];
        int last = IMAGE_HEAD + IMAGE_DEED * deeds;
        if (!shore.told || length != last + 1 || tape[last] != checkOf(tape, last)) {
            return false;
        }
        if (pairAt(0) > SEASON_MOST || pairAt(2) > shore.holds || pairAt(4) > AMOUNT_MOST) {
            return false;
        }
        for (int deed = 0; deed < deeds; deed++) {
            if (!isDeedImage(IMAGE_HEAD + IMAGE_DEED * deed)) {
                return false;
            }
        }
        return true;
    }

    private boolean isDeedImage(int at) {
        int ink = pairAt(at + 1);
        int age = tape[at + 3];
        switch (tape[at]) {
            case 0: return ink == 0 && age == AGE_MOST;
            case 1: return ink <= AMOUNT_MOST && age <= AGE_MOST;
            default: return false;
        }
    }

    /** How all stands in one SEASON; a DEED that is not written has INK 0 and age 99. */
    private static final class Lake {
        int season;
        int buckets;
        int grains;
        int written;
        int keptCount;
        final int[] ink = new int[DEEDS_MOST];
        final int[] age = new int[DEEDS_MOST];

        void begin(int bucketsAtFirst, int grainsAtFirst) {
            season = 0;
            buckets = bucketsAtFirst;
            grains = grainsAtFirst;
            written = 0;
            keptCount = 0;
            for (int deed = 0; deed < DEEDS_MOST; deed++) {
                ink[deed] = 0;
                age[deed] = AGE_MOST;
            }
        }

        void copyOf(Lake other) {
            season = other.season;
            buckets = other.buckets;
            grains = other.grains;
            written = other.written;
            keptCount = other.keptCount;
            System.arraycopy(other.ink, 0, ink, 0, DEEDS_MOST);
            System.arraycopy(other.age, 0, age, 0, DEEDS_MOST);
        }

        int darkness() {
            if (buckets <= 0) {
                return 0;
            }
            int share = HUNDRED * grains / buckets;
            return share > AMOUNT_MOST ? AMOUNT_MOST : share;
        }

        boolean isWritten(int deed) {
            return (written >> deed & 1) != 0;
        }

        void draw(int deed, int drawn) {
            ink[deed] = darkness();
            age[deed] = 0;
            written |= 1 << deed;
            if (buckets > 0) {
                grains -= grains * drawn / buckets;
            }
            buckets -= drawn;
        }
    }

    /** The ACTS that can be undone: how all stood ahead of each of the last ones, in a ring. */
    private static final class Acts {
        final Lake[] past = new Lake[ACTS_MOST];
        int next;
        int count;

        Acts() {
            for (int k = 0; k < ACTS_MOST; k++) {
                past[k] = new Lake();
            }
        }

        void forget() {
            next = 0;
            count = 0;
        }

        void remember(Lake lake) {
            past[next].copyOf(lake);
            next = (next + 1) % ACTS_MOST;
            count = Math.min(ACTS_MOST, count + 1);
        }

        void recall(Lake into) {
            next = (next + ACTS_MOST - 1) % ACTS_MOST;
            count--;
            into.copyOf(past[next]);
        }
    }

    /** SUMS and TESTS, each a row of marks in which a sign stands behind what it joins. */
    private static final class Sums {
        final int[] code = new int[TAPE_MOST];
        final int[] from = new int[RULES];
        final int[] to = new int[RULES];
        int length;

        void clear() {
            length = 0;
            for (int rule = 0; rule < RULES; rule++) {
                from[rule] = NONE;
                to[rule] = NONE;
            }
        }

        boolean isTold(int rule) {
            return from[rule] != NONE;
        }

        void put(int mark) {
            if (length < code.length) {
                code[length] = mark;
                length++;
            }
        }
    }

    /** What a SHORE tells. */
    private static final class Shore {
        boolean told;
        int holds;
        int buckets;
        int grains;
        final int[] counts = new int[KINDS];
        final int[] letters = new int[NAMES_MOST * NAME_MOST];
        final int[] gives = new int[BROOKS_MOST];
        final int[] blacks = new int[BROOKS_MOST];
        final int[] miles = new int[VILLAGES_MOST];
        final int[] village = new int[DEEDS_MOST];
        final int[] needs = new int[DEEDS_MOST];
        final int[] worth = new int[DEEDS_MOST];
        final int[] term = new int[DEEDS_MOST];
        final Sums sums = new Sums();
        int dries;
        int reads;
        int drought;

        Shore() {
            clear();
        }

        void clear() {
            told = false;
            holds = 0;
            for (int kind = 0; kind < KINDS; kind++) {
                counts[kind] = 0;
            }
            sums.clear();
            dries = 0;
            reads = 1;
            drought = 0;
        }

        /** NAMES stand in one row: those of the BROOKS, of the VILLAGES, of the DEEDS. */
        static int rowOf(int kind, int which) {
            switch (kind) {
                case BROOKS: return which;
                case VILLAGES: return BROOKS_MOST + which;
                default: return BROOKS_MOST + VILLAGES_MOST + which;
            }
        }

        static int mostOf(int kind) {
            return kind == DEEDS ? DEEDS_MOST : kind == VILLAGES ? VILLAGES_MOST : BROOKS_MOST;
        }

        int find(int kind, int[] name) {
            for (int which = 0; which < counts[kind]; which++) {
                int from = rowOf(kind, which) * NAME_MOST;
                int k = 0;
                while (k < NAME_MOST && letters[from + k] == name[k]) {
                    k++;
                }
                if (k == NAME_MOST) {
                    return which;
                }
            }
            return NONE;
        }

        boolean knows(int[] name) {
            return find(BROOKS, name) != NONE || find(VILLAGES, name) != NONE || find(DEEDS, name) != NONE;
        }

        int lengthOf(int kind, int which) {
            int from = rowOf(kind, which) * NAME_MOST;
            int length = 0;
            while (length < NAME_MOST && letters[from + length] != 0) {
                length++;
            }
            return length;
        }

        /** Whether no other DEED begins with so many of this one's letters. */
        boolean isAlone(int deed, int length) {
            int from = rowOf(DEEDS, deed) * NAME_MOST;
            for (int other = 0; other < counts[DEEDS]; other++) {
                int there = rowOf(DEEDS, other) * NAME_MOST;
                int k = 0;
                while (k < length && letters[from + k] == letters[there + k]) {
                    k++;
                }
                if (k == length && other != deed) {
                    return false;
                }
            }
            return true;
        }
    }

    /** What the SHORE's SUMS and TESTS make of a lake and its DEEDS. */
    private static final class Rules {
        Shore shore;
        int drawn;
        final int[] stack = new int[STACK_MOST];

        int drawnBy(Lake lake, int deed) {
            if (!shore.sums.isTold(RULE_DRAWS)) {
                return shore.needs[deed];
            }
            return between(0, reckon(shore.sums, RULE_DRAWS, lake, deed), AMOUNT_MOST);
        }

        boolean canBe(Lake lake, int deed) {
            if (lake.isWritten(deed) || lake.season > shore.term[deed] || lake.buckets < drawnBy(lake, deed)) {
                return false;
            }
            return !shore.sums.isTold(RULE_MAY) || reckon(shore.sums, RULE_MAY, lake, deed) != 0;
        }

        int readable(Lake lake) {
            int bits = 0;
            for (int deed = 0; deed < shore.counts[DEEDS]; deed++) {
                if (lake.isWritten(deed) && lake.ink[deed] >= shore.reads) {
                    bits |= 1 << deed;
                }
            }
            return bits;
        }

        void writeThose(Lake lake, int deeds) {
            for (int deed = 0; deed < shore.counts[DEEDS]; deed++) {
                if ((deeds >> deed & 1) != 0 && canBe(lake, deed)) {
                    lake.draw(deed, drawnBy(lake, deed));
                }
            }
        }

        /** A SEASON in which the BROOKS told as bits give nothing; tells how many BUCKETS ran over. */
        int passSeason(Lake lake, int dryBrooks) {
            int over = fill(lake, dryBrooks);
            for (int deed = 0; deed < shore.counts[DEEDS]; deed++) {
                if (lake.isWritten(deed)) {
                    lake.ink[deed] -= fadedBy(lake, deed);
                    lake.age[deed] = Math.min(AGE_MOST, lake.age[deed] + 1);
                }
            }
            lake.season++;
            return over;
        }

        /** The water of a SEASON alone; tells how many BUCKETS ran over. */
        int fill(Lake lake, int dryBrooks) {
            for (int brook = 0; brook < shore.counts[BROOKS]; brook++) {
                if ((dryBrooks >> brook & 1) == 0) {
                    lake.buckets += shore.gives[brook];
                    lake.grains += shore.blacks[brook];
                }
            }
            int over = Math.max(0, lake.buckets - shore.holds);
            if (over > 0 && lake.buckets > 0) {
                lake.grains = lake.grains * shore.holds / lake.buckets;
                lake.buckets = shore.holds;
            }
            lake.buckets -= lake.buckets * shore.dries / HUNDRED;
            lake.grains = Math.min(AMOUNT_MOST, lake.grains);
            return over;
        }

        private int fadedBy(Lake lake, int deed) {
            if (!shore.sums.isTold(RULE_FADES)) {
                return 0;
            }
            return between(0, reckon(shore.sums, RULE_FADES, lake, deed), lake.ink[deed]);
        }

        /** The SUM, or the TEST as 1 or 0, for one DEED. */
        int reckon(Sums sums, int rule, Lake lake, int deed) {
            int depth = 0;
            for (int k = Math.max(0, sums.from[rule]); k < sums.to[rule]; k++) {
                int mark = sums.code[k];
                if (mark == NOT && depth >= 1) {
                    stack[depth - 1] = 1 - stack[depth - 1];
                } else if (mark == BY && depth >= 1) {
                    stack[depth - 1] = stack[depth - 1] == shore.village[deed] ? 1 : 0;
                } else if (isJoint(mark) && depth >= 2) {
                    depth--;
                    stack[depth - 1] = join(mark, stack[depth - 1], stack[depth]);
                } else if (depth < STACK_MOST) {
                    stack[depth] = partOf(mark, lake, deed);
                    depth++;
                }
            }
            return depth == 0 ? 0 : stack[depth - 1];
        }

        private static boolean isJoint(int mark) {
            return mark < LAKE || mark == OR || mark == AND || mark == MIN || mark == MAX;
        }

        private static int join(int mark, int a, int b) {
            switch (mark) {
                case '+': return between(-SUM_MOST, (long) a + b, SUM_MOST);
                case '-': return between(-SUM_MOST, (long) a - b, SUM_MOST);
                case '*': return between(-SUM_MOST, (long) a * b, SUM_MOST);
                case '/': return b == 0 ? 0 : Math.floorDiv(a, b);
                case '<': return a < b ? 1 : 0;
                case '>': return a > b ? 1 : 0;
                case '=': return a == b ? 1 : 0;
                case OR: return a | b;
                case AND: return a & b;
                case MIN: return Math.min(a, b);
                default: return Math.max(a, b);
            }
        }

        private int partOf(int mark, Lake lake, int deed) {
            switch (mark) {
                case NEEDS: return shore.needs[deed];
                case WORTH: return shore.worth[deed];
                case MILES: return shore.miles[shore.village[deed]];
                case SEASON: return lake.season;
                case LEVEL: return lake.buckets;
                case DARK: return lake.darkness();
                case INK: return lake.ink[deed];
                case AGE: return lake.age[deed];
                case NUMBER: return deed;
                case TERM: return shore.term[deed];
                case DRAWS: return drawn;
                case ALL: return 1;
                default: return mark - NUMBERS_FROM;
            }
        }

        private static int between(int least, long number, int most) {
            return number < least ? least : number > most ? most : (int) number;
        }
    }

    /** DEEDS written one behind the other on trial, and the best of those seen. */
    private static final class Share {
        final Lake trial = new Lake();
        int bits;
        int worth;
        int drawn;
        int bestBits;
        int bestWorth;
        int bestDrawn;

        void begin(Lake lake) {
            trial.copyOf(lake);
            bits = 0;
            worth = 0;
            drawn = 0;
            bestBits = 0;
            bestWorth = NONE;
            bestDrawn = 0;
        }

        void compare() {
            boolean spares = drawn < bestDrawn || drawn == bestDrawn && bits < bestBits;
            if (worth > bestWorth || worth == bestWorth && spares) {
                bestBits = bits;
                bestWorth = worth;
                bestDrawn = drawn;
            }
        }
    }

    /** A text taken apart: what each mark is, where it begins, a word's letters, a number's value. */
    private static final class Marks {
        final int[] kinds = new int[TAPE_MOST + 1];
        final int[] places = new int[TAPE_MOST + 1];
        final int[] sizes = new int[TAPE_MOST + 1];
        int count;

        void scan(int[] text, int length) {
            int at = 0;
            int glue = NONE;
            count = 0;
            while (at < length) {
                int end = at + 1;
                if (isLetter(text[at])) {
                    end = endOfWord(text, at, length);
                    put(at == glue ? GLUED : wordMark(text, at, end), at, end - at);
                    glue = end;
                } else if (isDigit(text[at])) {
                    end = endOfNumber(text, at, length);
                    put(at == glue ? GLUED : DIGITS, at, valueOf(text, at, end));
                    glue = end;
                } else if (text[at] != ' ' && text[at] != '\n') {
                    put(text[at], at, 1);
                }
                at = end;
            }
            put(TEXT_END, length, 0);
        }

        private void put(int kind, int place, int size) {
            if (count < kinds.length) {
                kinds[count] = kind;
                places[count] = place;
                sizes[count] = size;
                count++;
            }
        }

        private static boolean isLetter(int octet) {
            return octet >= 'a' && octet <= 'z';
        }

        private static boolean isDigit(int octet) {
            return octet >= '0' && octet <= '9';
        }

        private static int endOfWord(int[] text, int from, int length) {
            int end = from;
            while (end < length && isLetter(text[end])) {
                end++;
            }
            return end;
        }

        private static int endOfNumber(int[] text, int from, int length) {
            int end = from;
            while (end < length && isDigit(text[end])) {
                end++;
            }
            return end;
        }

        /** A number's value, NONE when it has a 5th digit. */
        private static int valueOf(int[] text, int from, int to) {
            int value = 0;
            if (to - from > DIGITS_MOST) {
                return NONE;
            }
            for (int k = from; k < to; k++) {
                value = 10 * value + text[k] - '0';
            }
            return value;
        }

        private static int wordMark(int[] text, int from, int to) {
            int mark = LAKE;
            int at = 0;
            while (at < WORDS.length()) {
                int k = 0;
                while (at + k < WORDS.length() && from + k < to && WORDS.charAt(at + k) == text[from + k]) {
                    k++;
                }
                if (from + k == to && at + k < WORDS.length() && WORDS.charAt(at + k) == ' ') {
                    return mark;
                }
                while (at < WORDS.length() && WORDS.charAt(at) != ' ') {
                    at++;
                }
                at++;
                mark++;
            }
            return OTHER_WORD;
        }
    }

    /** Reads a text mark by mark; its first FAULT stays, and what is read behind it is not looked at. */
    private static final class Reader {
        final int[] text;
        final Marks marks = new Marks();
        final int[] name = new int[NAME_MOST];
        Sums sums;
        int rule;
        int at;
        int open;
        int fault;
        int place = NONE;

        Reader(int[] text) {
            this.text = text;
        }

        void begin(int length) {
            marks.scan(text, length);
            at = 0;
            open = 0;
            fault = 0;
            place = NONE;
        }

        boolean goesOn() {
            return fault == 0 && next() != TEXT_END;
        }

        void readLake(Shore into) {
            into.clear();
            need(LAKE);
            need(HAS);
            into.buckets = readNumber(0, AMOUNT_MOST);
            need(BLACK);
            into.grains = readNumber(0, AMOUNT_MOST);
            need(HOLDS);
            into.holds = readNumber(Math.max(1, into.buckets), AMOUNT_MOST);
            need(';');
            into.told = true;
        }

        /** Reads the STATEMENT that so many are ahead of. */
        void readStatement(Shore into, int statements) {
            int word = next();
            if (statements >= STATEMENTS_MOST) {
                fail(FAULT_MANY, nextPlace());
                return;
            }
            switch (word) {
                case BROOK: readBrook(into); break;
                case VILLAGE: readVillage(into); break;
                case DEED: readDeed(into); break;
                case DRAWS: readRule(into.sums, RULE_DRAWS); break;
                case FADES: readRule(into.sums, RULE_FADES); break;
                case MAY: readRule(into.sums, RULE_MAY); break;
                case DRIES: at++; into.dries = readNumber(0, HUNDRED); break;
                case READS: at++; into.reads = readNumber(0, AMOUNT_MOST); break;
                case DROUGHT: at++; into.drought = readNumber(0, HUNDRED); break;
                default: fail(FAULT_TEXT, nextPlace()); break;
            }
            need(';');
        }

        /** Reads a QUESTION; tells its first word. */
        int readQuestion(Sums into) {
            int asked = next();
            into.clear();
            sums = into;
            rule = RULE_ASKED;
            sums.from[rule] = 0;
            switch (asked) {
                case FIRST:
                case LAST:
                case OFTEN: at++; readTest(); break;
                case TOTAL:
                case MOST:
                case LEAST: at++; readSum(); break;
                default: fail(FAULT_TEXT, nextPlace()); break;
            }
            sums.to[rule] = sums.length;
            need(TEXT_END);
            return asked;
        }

        private void readBrook(Shore into) {
            int which = giveName(into, BROOKS);
            need(GIVES);
            int gives = readNumber(0, SHARE_MOST);
            need(BLACK);
            int blacks = readNumber(0, SHARE_MOST);
            if (fault == 0) {
                into.gives[which] = gives;
                into.blacks[which] = blacks;
                into.counts[BROOKS]++;
            }
        }

        private void readVillage(Shore into) {
            int which = giveName(into, VILLAGES);
            need(MILES);
            int miles = readNumber(0, 99);
            if (fault == 0) {
                into.miles[which] = miles;
                into.counts[VILLAGES]++;
            }
        }

        private void readDeed(Shore into) {
            int which = giveName(into, DEEDS);
            need(OF);
            int village = findVillage(into);
            need(NEEDS);
            int needs = readNumber(1, SHARE_MOST);
            need(WORTH);
            int worth = readNumber(0, 99);
            need(BY);
            int term = readNumber(0, 99);
            if (fault == 0) {
                into.village[which] = village;
                into.needs[which] = needs;
                into.worth[which] = worth;
                into.term[which] = term;
                into.counts[DEEDS]++;
            }
        }

        private void readRule(Sums into, int which) {
            if (into.isTold(which)) {
                fail(FAULT_MANY, nextPlace());
                return;
            }
            at++;
            sums = into;
            rule = which;
            sums.from[rule] = sums.length;
            if (which == RULE_MAY) {
                readTest();
            } else {
                readSum();
            }
            sums.to[rule] = sums.length;
        }

        /** Reads the word of a kind and the NAME that it gives; tells its number, good without a FAULT alone. */
        private int giveName(Shore into, int kind) {
            int which = into.counts[kind];
            if (which >= Shore.mostOf(kind)) {
                fail(FAULT_MANY, nextPlace());
                return NONE;
            }
            at++;
            int from = nextPlace();
            readName();
            if (fault == 0 && into.knows(name)) {
                fail(FAULT_NAME, from);
            }
            for (int k = 0; k < NAME_MOST; k++) {
                into.letters[Shore.rowOf(kind, which) * NAME_MOST + k] = name[k];
            }
            return which;
        }

        private int findVillage(Shore into) {
            int from = nextPlace();
            readName();
            int village = into.find(VILLAGES, name);
            if (village == NONE) {
                fail(FAULT_NAME, from);
            }
            return village;
        }

        private void readName() {
            int kind = next();
            int from = nextPlace();
            int length = nextSize();
            if (kind < FIRST || kind > OTHER_WORD) {
                fail(FAULT_TEXT, from);
                return;
            }
            if (length > NAME_MOST) {
                fail(FAULT_TEXT, from + NAME_MOST);
                return;
            }
            for (int k = 0; k < NAME_MOST; k++) {
                name[k] = k < length ? text[from + k] - 'a' + 1 : 0;
            }
            at++;
        }

        private int readNumber(int least, int most) {
            int number = nextSize();
            if (next() != DIGITS) {
                fail(FAULT_TEXT, nextPlace());
                return NONE;
            }
            if (number == NONE) {
                fail(FAULT_TEXT, nextPlace() + DIGITS_MOST);
            } else if (number < least || number > most) {
                fail(FAULT_NUMBER, nextPlace());
            }
            at++;
            return number;
        }

        private void readTest() {
            readBoth();
            while (at < marks.count && fault == 0 && next() == OR) {
                at++;
                readBoth();
                sums.put(OR);
            }
        }

        private void readBoth() {
            readFact();
            while (at < marks.count && fault == 0 && next() == AND) {
                at++;
                readFact();
                sums.put(AND);
            }
        }

        private void readFact() {
            int mark = next();
            if (mark == NOT) {
                if (opens()) {
                    readFact();
                    sums.put(NOT);
                    open--;
                }
            } else if (mark == '[') {
                if (opens()) {
                    readTest();
                    need(']');
                    open--;
                }
            } else if (mark == ALL) {
                at++;
                sums.put(ALL);
            } else {
                readSum();
                int sign = next();
                if (sign != '<' && sign != '>' && sign != '=') {
                    fail(FAULT_TEXT, nextPlace());
                    return;
                }
                at++;
                readSum();
                sums.put(sign);
            }
        }

        private void readSum() {
            readProduct();
            while (at < marks.count && fault == 0 && (next() == '+' || next() == '-')) {
                int sign = next();
                at++;
                readProduct();
                sums.put(sign);
            }
        }

        private void readProduct() {
            readPart();
            while (at < marks.count && fault == 0 && (next() == '*' || next() == '/')) {
                int sign = next();
                at++;
                readPart();
                sums.put(sign);
            }
        }

        private void readPart() {
            int mark = next();
            if (mark == DIGITS) {
                sums.put(NUMBERS_FROM + readNumber(0, AMOUNT_MOST));
            } else if (mark == '(') {
                readSums(1);
            } else if (mark == MIN || mark == MAX) {
                at++;
                readSums(2);
                sums.put(mark);
            } else if (mark == BY && rule == RULE_ASKED) {
                if (opens()) {
                    readPart();
                    sums.put(BY);
                    open--;
                }
            } else if (isPart(mark)) {
                at++;
                sums.put(mark);
            } else {
                fail(FAULT_TEXT, nextPlace());
            }
        }

        /** Reads one SUM or two in round brackets. */
        private void readSums(int count) {
            if (next() != '(') {
                fail(FAULT_TEXT, nextPlace());
                return;
            }
            if (opens()) {
                readSum();
                if (count == 2) {
                    need(',');
                    readSum();
                }
                need(')');
                open--;
            }
        }

        private boolean isPart(int mark) {
            switch (mark) {
                case NEEDS:
                case WORTH:
                case MILES:
                case SEASON: return true;
                case LEVEL:
                case DARK: return rule == RULE_DRAWS || rule == RULE_MAY;
                case INK:
                case AGE: return rule == RULE_FADES || rule == RULE_ASKED;
                case NUMBER:
                case TERM:
                case DRAWS: return rule == RULE_ASKED;
                default: return false;
            }
        }

        /** Passes what opens, unless it is one too many at once: the limit keeps the reading shallow, too. */
        private boolean opens() {
            if (fault != 0 || open >= OPEN_MOST) {
                fail(FAULT_OPEN, nextPlace());
                return false;
            }
            open++;
            at++;
            return true;
        }

        private int next() {
            return at < marks.count ? marks.kinds[at] : TEXT_END;
        }

        private int nextPlace() {
            return at < marks.count ? marks.places[at] : 0;
        }

        private int nextSize() {
            return at < marks.count ? marks.sizes[at] : 0;
        }

        private void need(int mark) {
            if (next() != mark) {
                fail(FAULT_TEXT, nextPlace());
            } else if (mark != TEXT_END) {
                at++;
            }
        }

        private void fail(int kind, int where) {
            if (fault == 0) {
                fault = kind;
                place = where;
            }
        }
    }
}
