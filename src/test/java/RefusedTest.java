import java.util.function.Consumer;

/** Each call that is refused: what it answers, what it counts under status(), what stays as it was. */
public final class RefusedTest {
    private static final int NONE = InkLake.NONE;
    private static final int[] FAR = {Integer.MIN_VALUE, Integer.MIN_VALUE + 1, -1000, -2, -1, 64, 999, 1000, 10000, 65536,
        1 << 30, Integer.MAX_VALUE - 1, Integer.MAX_VALUE};

    public static void main(String[] args) {
        fedTooMuch();
        endedTooFar();
        noShore();
        noShoreOnANewObject();
        noOutflows();
        noOutflowsWithoutALake();
        notWritten();
        notWrittenWithoutALake();
        notPoured();
        notPouredWithoutALake();
        noSeasons();
        noYears();
        noSeasonsWithoutALake();
        beyondTheLastSeason();
        notUndone();
        noSeed();
        notOn();
        notOnWithoutALake();
        notAsked();
        notAskedWithoutALake();
        whatIsNotCounted();
        nothingOnANewObject();
        countsGoOn();
        Check.finish();
    }

    /** A lake in its third SEASON: one DEED written, ACTS, KEPT, an image, an OUTFLOW, a FAULT, all at once. */
    private static InkLake busy() {
        InkLake x = Lakes.of(Lakes.PLAIN + "fades 3;drought 20;");
        x.write(0);
        x.pour(17);
        x.seasons(2);
        x.image();
        Lakes.outflows(x, 20);
        Lakes.ask(x, "most #");
        return x;
    }

    // Each sentence looks at an object of its own: nothing is promised behind an object's 512th call.
    /** The tape is as long as told, whatever else is asked. */
    private static void tapeIs(String sentence, InkLake x, int length) {
        int before = x.status(0);
        Check.no(sentence + ": no byte more", x.end(length + 1));
        Check.eq(sentence + ": no byte more is refused", x.status(0), before + 1);
        Check.yes(sentence + ": all bytes", x.end(length));
    }

    /** The DRAWS of seed 1, of which none has been made, are 18 and 99: by drought 20 one BROOK gives nothing. */
    private static void seedIsOne(String sentence, InkLake x) {
        Check.eq(sentence + ": the seed stays", x.years(1), 1);
        Check.yes(sentence + ": back", x.undo());
        Check.eq(sentence + ": the seed went on", x.years(1), 0);
    }

    private static void fedTooMuch() {
        InkLake x = busy();
        Lakes.put(x, "most 0" + "+1".repeat(797));
        Told before = Told.of(x);
        Check.eq("2 feed with 1600 on the tape", x.feed(1, 2, 3, 4, 5), NONE);
        before.stays("2 feed with 1600 on the tape", x, 0);
        Check.eq("2 the tape stays as it was", x.ask(), 797);
        Lakes.put(x, "most 0" + "+1".repeat(788) + " ");
        Check.eq("2 feed with 1583 on the tape", x.feed(0, 0, 0, 0, 0), NONE);
        Check.eq("2 the tape stays as it was", x.ask(), 788);
        Lakes.put(x, "most 0" + "+1".repeat(787));
        Check.eq("2 feed with 1580 on the tape", x.feed(0x2b312b31, 0x2b312b31, 0x2b312b31, 0x2b312b31, 0x2b312b31), 1600);
        Check.eq("2 feed with 1600 on the tape", x.feed(0, 0, 0, 0, 0), NONE);
        Check.eq("2 twenty bytes more", x.ask(), 797);
        seedIsOne("2 feed", x);
    }

    private static void endedTooFar() {
        for (int n : FAR) {
            InkLake far = busy();
            far.feed(0x6d6f7374, 0x20372020, 0x20202020, 0x20202020, 0x20202020);
            Told before = Told.of(far);
            Check.no("3 end " + n, far.end(n));
            before.stays("3 end " + n, far, 0);
            Check.eq("3 the tape stays as it was", far.ask(), 7);
        }
        InkLake x = busy();
        x.feed(0x6d6f7374, 0x20372020, 0x20202020, 0x20202020, 0x20202020);
        Check.no("3 one more than it has", x.end(21));
        Check.eq("3 the tape stays as it was", x.ask(), 7);
        Check.no("3 of an empty tape", x.end(1));
        Check.yes("3 nothing of an empty tape", x.end(0));
        seedIsOne("3 end", x);
    }

    private static void noShore() {
        String[] wrong = {"", " ", "lake", "lake has 1 black 1 holds 0;", Lakes.PLAIN + "brook nib gives 1 black 1;",
            Lakes.PLAIN + "draws (((((((1)))))));", Lakes.PLAIN + "may all;may all;", Lakes.PLAIN + "dries 101;",
            Lakes.PLAIN.replace("nib", "nob") + "dries 50;reads 9999;drought 100;draws 1;fades 2;may not all"};
        int[] faults = {1, 1, 1, 2, 3, 4, 5, 2, 1};
        for (int k = 0; k < wrong.length; k++) {
            InkLake x = busy();
            Lakes.put(x, wrong[k]);
            int season = x.has(4);
            Check.eq("4 no shore " + wrong[k], x.shore(), NONE);
            Check.eq("4 its FAULT " + wrong[k], x.fault(0), faults[k]);
            Check.eq("4 the SEASON stays", x.has(4), season);
            tapeIs("4 the tape goes", x, 0);
            InkLake twin = busy();
            Lakes.put(twin, "");
            twin.shore();
            twin.end(1);
            twin.end(0);
            Check.eq("4 counted", x.status(1), 1);
            Lakes.ask(x, "most #");
            Lakes.ask(twin, "most #");
            Told.of(twin).stays("4 all stays " + wrong[k], x, -1);
            Check.eq("4 draws as before", x.deed(1, 7), 50);
            Check.eq("4 letters as before", x.letter(1, 0, 1), 'i' - 'a' + 1);
            seedIsOne("4 shore", x);
            Check.yes("4 years undone", x.undo());
            Check.yes("4 seasons undone", x.undo());
            Check.yes("4 pour undone", x.undo());
            Check.yes("4 write undone", x.undo());
            Check.no("4 none left", x.undo());
            Check.eq("4 the lake as at first", x.has(5) * 1000 + x.has(6), 100250);
        }
    }

    private static void noShoreOnANewObject() {
        InkLake x = new InkLake();
        Check.eq("4 without a lake", Lakes.shore(x, "lake has 9 black 9 holds 9;brook b gives 9 black 9;x"), NONE);
        Check.eq("4 counted", x.status(1), 1);
        for (int what = 0; what < 12; what++) {
            Check.eq("4 still nothing " + what, x.has(what), 0);
        }
        Check.eq("4 still no BROOK", x.brook(0, 0), NONE);
        Check.eq("4 still no letter", x.letter(0, 0, 0), NONE);
        Check.eq("4 still no lake", x.later(0, 0), NONE);
        Check.eq("4 still no lake", x.seasons(1), NONE);
        Check.eq("4 still no lake", x.share(0), NONE);
    }

    private static void noOutflows() {
        for (int length = 0; length <= 60; length++) {
            boolean good = length % 2 == 0 && length >= 2 && length <= 20;
            InkLake x = busy();
            Lakes.put(x, new int[length]);
            Told before = Told.of(x);
            int answer = x.outflows();
            if (good) {
                Check.yes("20 bytes: " + length, answer >= 0);
                Check.eq("20 not counted: " + length, x.status(1), 0);
            } else {
                Check.eq("20 bytes: " + length, answer, NONE);
                before.stays("20 bytes: " + length, x, 1);
            }
            tapeIs("20 the tape goes", x, 0);
        }
        InkLake x = busy();
        Lakes.put(x, new int[1600]);
        Told before = Told.of(x);
        Check.eq("20 a full tape", x.outflows(), NONE);
        before.stays("20 a full tape", x, 1);
        seedIsOne("20 outflows", x);
    }

    private static void noOutflowsWithoutALake() {
        InkLake x = new InkLake();
        Told before = Told.of(x);
        Check.eq("20 without a lake", Lakes.outflows(x, 0), NONE);
        before.stays("20 without a lake", x, 1);
        tapeIs("20 the tape goes", x, 0);
    }

    private static void refusedWrite(String sentence, InkLake x, int deed) {
        Told before = Told.of(x);
        Check.eq("23 " + sentence, x.write(deed), NONE);
        before.stays("23 " + sentence, x, 2);
    }

    private static void notWritten() {
        InkLake x = busy();
        refusedWrite("written", x, 0);
        refusedWrite("none such 2", x, 2);
        seedIsOne("23 write", x);
        for (int deed : FAR) {
            refusedWrite("none such " + deed, busy(), deed);
        }
        x = busy();
        x.seasons(1);
        refusedWrite("behind its term", x, 1);
        x = Lakes.of(Lakes.PLAIN + "draws 101;");
        refusedWrite("too few BUCKETS", x, 0);
        x = Lakes.of(Lakes.PLAIN + "may needs=50;");
        refusedWrite("may not", x, 0);
        Check.eq("23 the other may", x.write(1), 250);
        refusedWrite("without DEEDS", Lakes.of("lake has 1 black 1 holds 1;"), 0);
    }

    private static void notWrittenWithoutALake() {
        for (int deed = -1; deed < 9; deed++) {
            refusedWrite("without a lake", new InkLake(), deed);
        }
    }

    private static void refusedPour(String sentence, InkLake x, int grains) {
        Told before = Told.of(x);
        Check.eq("24 " + sentence, x.pour(grains), NONE);
        before.stays("24 " + sentence, x, 2);
    }

    private static void notPoured() {
        InkLake x = busy();
        refusedPour("none", x, 0);
        refusedPour("one too many", x, 1000);
        seedIsOne("24 pour", x);
        for (int grains : FAR) {
            if (grains < 1 || grains > 999) {
                refusedPour("GRAINS " + grains, busy(), grains);
            }
        }
        x = Lakes.of("lake has 1 black 9999 holds 1;");
        refusedPour("a full lake", x, 1);
        refusedPour("a full lake", x, 999);
        x = Lakes.of("lake has 1 black 9990 holds 1;");
        refusedPour("one too many", x, 10);
        Check.eq("24 as many as there can be", x.pour(9), 9999);
        refusedPour("then one more", x, 1);
    }

    private static void notPouredWithoutALake() {
        refusedPour("without a lake", new InkLake(), 1);
        refusedPour("without a lake", new InkLake(), 0);
    }

    private static void refusedSeasons(String sentence, InkLake x, int n) {
        Told before = Told.of(x);
        Check.eq("25 " + sentence, x.seasons(n), NONE);
        before.stays("25 " + sentence, x, 3);
    }

    private static void refusedYears(String sentence, InkLake x, int n) {
        Told before = Told.of(x);
        Check.eq("26 " + sentence, x.years(n), NONE);
        before.stays("26 " + sentence, x, 3);
    }

    private static void noSeasons() {
        InkLake x = busy();
        refusedSeasons("none", x, 0);
        refusedSeasons("one too many", x, 101);
        seedIsOne("25 seasons", x);
        for (int n : FAR) {
            if (n != 64) {
                refusedSeasons("SEASONS " + n, busy(), n);
            }
        }
    }

    private static void noYears() {
        InkLake x = busy();
        refusedYears("none", x, 0);
        refusedYears("one too many", x, 101);
        seedIsOne("26 years", x);
        for (int n : FAR) {
            if (n != 64) {
                refusedYears("SEASONS " + n, busy(), n);
            }
        }
    }

    private static void noSeasonsWithoutALake() {
        refusedSeasons("without a lake", new InkLake(), 1);
        refusedYears("without a lake", new InkLake(), 1);
        refusedSeasons("without a lake", new InkLake(), 0);
        refusedYears("without a lake", new InkLake(), 101);
    }

    private static InkLake inSeason(int season) {
        InkLake x = Lakes.of(Lakes.PLAIN + "fades 3;drought 20;");
        Check.yes("32 an image of SEASON " + season, Lakes.on(x, Lakes.image(season, 100, 250, 1, 0, 9, 0, 0, 0, 0, 99)));
        return x;
    }

    private static void beyondTheLastSeason() {
        for (int left = 0; left <= 101; left++) {
            InkLake x = inSeason(999 - left);
            if (left < 100) {
                refusedSeasons("beyond SEASON 999 by one", x, left + 1);
                refusedYears("beyond SEASON 999 by one", x, left + 1);
                refusedSeasons("beyond SEASON 999", x, 100);
            }
            if (left > 0) {
                int n = Math.min(100, left);
                Check.yes("25 to SEASON 999", x.seasons(n) >= 0);
                Check.eq("25 to SEASON 999", x.has(4), 999 - left + n);
                Check.yes("25 back", x.undo());
                Check.yes("26 to SEASON 999", x.years(n) >= 0);
                Check.eq("26 to SEASON 999", x.has(4), 999 - left + n);
            }
        }
        InkLake x = inSeason(999);
        Lakes.put(x, 0, 135);
        Told before = Told.of(x);
        Check.eq("20 beyond SEASON 999", x.outflows(), NONE);
        before.stays("20 beyond SEASON 999", x, 1);
        seedIsOneAtTheEnd(x);
    }

    private static void seedIsOneAtTheEnd(InkLake x) {
        Check.yes("32 back to SEASON 0", Lakes.on(x, Lakes.image(0, 1, 1, 0, 0, 0, 99, 0, 0, 0, 99)));
        seedIsOne("26 refused at SEASON 999", x);
    }

    private static void refusedUndo(String sentence, InkLake x) {
        Told before = Told.of(x);
        Check.no("27 " + sentence, x.undo());
        before.stays("27 " + sentence, x, 4);
    }

    private static void notUndone() {
        refusedUndo("on a new object", new InkLake());
        InkLake x = Lakes.of(Lakes.PLAIN + "drought 20;");
        refusedUndo("behind a SHORE", x);
        x.write(0);
        Check.yes("27 one ACT", x.undo());
        refusedUndo("one ACT is undone", x);
        x.pour(0);
        x.write(7);
        x.seasons(0);
        x.years(0);
        refusedUndo("behind refused ACTS", x);
        seedIsOne("27 undo", x);
        x = Lakes.of(Lakes.PLAIN + "drought 20;");
        x.pour(1);
        Check.yes("32 an image", Lakes.on(x, Lakes.image(0, 1, 1, 0, 0, 0, 99, 0, 0, 0, 99)));
        refusedUndo("behind an image", x);
        seedIsOne("27 undo", x);
        for (int acts = 20; acts <= 23; acts++) {
            x = busy();
            for (int k = 3; k < acts; k++) {
                x.pour(1);
            }
            Check.eq("27 20 can be undone", x.has(11), 20);
            for (int k = 0; k < 20; k++) {
                Check.yes("27 20 can be undone", x.undo());
            }
            refusedUndo("the 21st", x);
            Check.eq("27 the ACTS ahead of the 20 stay", x.has(6) == 250 && x.has(4) == 0 ? 1 : 0, acts == 20 ? 1 : 0);
            Check.eq("27 the DEED ahead of the 20 stays", x.deed(0, 4), acts == 20 ? 0 : 1);
        }
        Check.eq("27 20 of 23: SEASONS stay", x.has(4), 2);
    }

    private static void noSeed() {
        for (int seed : FAR) {
            if (seed < 0) {
                InkLake x = busy();
                Told before = Told.of(x);
                Check.no("28 seed " + seed, x.seed(seed));
                before.stays("28 seed " + seed, x, 5);
                seedIsOne("28 seed " + seed, x);
            }
        }
        InkLake y = new InkLake();
        Told before = Told.of(y);
        Check.no("28 on a new object", y.seed(-1));
        before.stays("28 on a new object", y, 5);
        Check.yes("28 nought is a seed", y.seed(0));
        Check.yes("28 the greatest", y.seed(Integer.MAX_VALUE));
        Check.eq("28 those are not refused", y.status(5), 1);
    }

    private static void refusedOn(String sentence, int... octets) {
        InkLake x = busy();
        refusedOn(sentence, x, octets);
        seedIsOne("32 " + sentence, x);
    }

    private static void refusedOn(String sentence, InkLake x, int... octets) {
        Lakes.put(x, octets);
        Told before = Told.of(x);
        Check.no("32 " + sentence, x.on());
        before.stays("32 " + sentence, x, 5);
        tapeIs("32 the tape goes: " + sentence, x, 0);
    }

    private static int[] cut(int[] octets, int length) {
        int[] part = new int[length];
        System.arraycopy(octets, 0, part, 0, Math.min(length, octets.length));
        return part;
    }

    private static void notOn() {
        int[] good = Lakes.image(999, 150, 9999, 1, 39, 15, 99, 0, 0, 0, 99);
        refusedOn("no bytes");
        refusedOn("one byte too few", cut(good, 14));
        refusedOn("one byte too many", cut(good, 16));
        refusedOn("the last byte one above", changed(good, 14, 1));
        refusedOn("the last byte one below", changed(good, 14, -1));
        for (int k = 0; k < 14; k++) {
            refusedOn("another byte " + k, changed(good, k, 1));
        }
        refusedOn("SEASON 1000", Lakes.image(1000, 150, 9999, 1, 39, 15, 99, 0, 0, 0, 99));
        refusedOn("BUCKETS one more than it holds", Lakes.image(999, 151, 9999, 1, 39, 15, 99, 0, 0, 0, 99));
        refusedOn("GRAINS 10000", Lakes.image(999, 150, 10000, 1, 39, 15, 99, 0, 0, 0, 99));
        refusedOn("INK 10000", Lakes.image(999, 150, 9999, 1, 39, 16, 99, 0, 0, 0, 99));
        refusedOn("age 100", Lakes.image(999, 150, 9999, 1, 39, 15, 100, 0, 0, 0, 99));
        refusedOn("written 2", Lakes.image(999, 150, 9999, 2, 39, 15, 99, 0, 0, 0, 99));
        refusedOn("written 255", Lakes.image(999, 150, 9999, 255, 39, 15, 99, 0, 0, 0, 99));
        refusedOn("INK of one not written", Lakes.image(999, 150, 9999, 1, 39, 15, 99, 0, 0, 1, 99));
        refusedOn("INK of one not written", Lakes.image(999, 150, 9999, 1, 39, 15, 99, 0, 1, 0, 99));
        refusedOn("age 98 of one not written", Lakes.image(999, 150, 9999, 1, 39, 15, 99, 0, 0, 0, 98));
        refusedOn("age 100 of one not written", Lakes.image(999, 150, 9999, 1, 39, 15, 99, 0, 0, 0, 100));
        refusedOn("all at the most that two bytes hold", Lakes.image(65535, 65535, 65535, 1, 255, 255, 255, 1, 255, 255, 255));
        refusedOn("a DEED too few", Lakes.image(1, 1, 1, 0, 0, 0, 99));
        refusedOn("a DEED too many", Lakes.image(1, 1, 1, 0, 0, 0, 99, 0, 0, 0, 99, 0, 0, 0, 99));
        refusedOn("a full tape", cut(good, 1600));
        InkLake x = busy();
        Check.yes("32 the most", Lakes.on(x, good));
        Check.eq("32 the most isn't refused", x.status(5), 0);
    }

    private static int[] changed(int[] octets, int k, int by) {
        int[] other = octets.clone();
        other[k] += by;
        return other;
    }

    private static void notOnWithoutALake() {
        refusedOn("without a lake", new InkLake(), Lakes.image(0, 0, 0));
        refusedOn("without a lake", new InkLake());
    }

    /** A QUESTION with a FAULT is counted nowhere, and lets all but fault() stay. */
    private static void notAsked() {
        for (String text : new String[] {"", "#", "most", "most #", "often all all", "most (((((((1)))))))", "most level"}) {
            InkLake x = busy();
            InkLake twin = busy();
            Check.eq("29 no QUESTION " + text, Lakes.ask(x, text), InkLake.NOTHING);
            tapeIs("29 the tape goes " + text, x, 0);
            twin.end(1);
            Lakes.ask(x, "most #");
            Told.of(twin).stays("29 all stays " + text, x, -1);
            seedIsOne("29 ask", x);
        }
    }

    private static void notAskedWithoutALake() {
        for (String text : new String[] {"", "often all", "#"}) {
            InkLake x = new InkLake();
            Lakes.put(x, text);
            Told before = Told.of(x);
            Check.eq("29 without a lake", x.ask(), InkLake.NOTHING);
            before.stays("29 without a lake", x, -1);
            Lakes.shore(x, "lake has");
            Check.eq("29 a FAULT ahead", x.fault(1), 8);
            Lakes.put(x, text);
            before = Told.of(x);
            Check.eq("29 without a lake, nothing else is done", x.ask(), InkLake.NOTHING);
            before.stays("29 without a lake, nothing else is done", x, -1);
        }
    }

    private static void uncounted(String sentence, Consumer<InkLake> call) {
        for (InkLake x : new InkLake[] {busy(), new InkLake(), Lakes.of("lake has 1 black 1 holds 1;")}) {
            Told before = Told.of(x);
            call.accept(x);
            before.stays(sentence, x, -1);
        }
    }

    private static void none(String sentence, int answer) {
        Check.eq(sentence, answer, NONE);
    }

    /** Calls that only tell, asked for what there isn't: NONE, counted nowhere, nothing changes. */
    private static void whatIsNotCounted() {
        for (int far : new int[] {Integer.MIN_VALUE, -2, -1, 1000, Integer.MAX_VALUE}) {
            uncounted("5 fault " + far, x -> none("5 fault " + far, x.fault(far)));
            uncounted("6 has " + far, x -> none("6 has " + far, x.has(far)));
            uncounted("7 kind " + far, x -> none("7 kind " + far, x.letter(far, 0, 0)));
            uncounted("7 which " + far, x -> none("7 which " + far, x.letter(0, far, 0)));
            uncounted("7 letter " + far, x -> none("7 letter " + far, x.letter(0, 0, far)));
            uncounted("8 brook " + far, x -> none("8 brook " + far, x.brook(far, 0)));
            uncounted("8 others " + far, x -> none("8 others " + far, x.brook(0, far)));
            uncounted("9 deed " + far, x -> none("9 deed " + far, x.deed(far, 0)));
            uncounted("9 others " + far, x -> none("9 others " + far, x.deed(0, far)));
            uncounted("10 miles " + far, x -> none("10 miles " + far, x.miles(far)));
            uncounted("11 kept " + far, x -> none("11 kept " + far, x.kept(far, 0)));
            uncounted("11 others " + far, x -> none("11 others " + far, x.kept(0, far)));
            uncounted("12 later " + far, x -> none("12 later " + far, x.later(far, 0)));
            uncounted("12 others " + far, x -> none("12 others " + far, x.later(0, far)));
            uncounted("13 fade " + far, x -> none("13 fade " + far, x.fade(far)));
            uncounted("14 soonest " + far, x -> none("14 soonest " + far, x.soonest(far)));
            uncounted("15 dip " + far, x -> none("15 dip " + far, x.dip(far, 0)));
            uncounted("15 others " + far, x -> none("15 others " + far, x.dip(0, far)));
            uncounted("17 share " + far, x -> none("17 share " + far, x.share(far)));
            uncounted("18 all " + far, x -> none("18 all " + far, x.all(far)));
            uncounted("19 more " + far, x -> none("19 more " + far, x.thinned(far, 1, 1, 0)));
            uncounted("19 others " + far, x -> none("19 others " + far, x.thinned(1, 1, 1, far)));
            uncounted("21 outflow " + far, x -> none("21 outflow " + far, x.outflow(far)));
            uncounted("22 brief " + far, x -> none("22 brief " + far, x.brief(far)));
            uncounted("31 octet " + far, x -> none("31 octet " + far, x.octet(far)));
            uncounted("33 status " + far, x -> none("33 status " + far, x.status(far)));
        }
        for (int far : new int[] {Integer.MIN_VALUE, -1, 10000, Integer.MAX_VALUE}) {
            uncounted("19 BUCKETS " + far, x -> none("19 BUCKETS " + far, x.thinned(1, far, 1, 0)));
        }
        for (int far : new int[] {Integer.MIN_VALUE, -2, 10000, Integer.MAX_VALUE}) {
            uncounted("19 DARK " + far, x -> none("19 DARK " + far, x.thinned(1, 1, far, 0)));
        }
    }

    /** An object ahead of its first SHORE. */
    private static void nothingOnANewObject() {
        InkLake x = new InkLake();
        for (int what = 0; what < 12; what++) {
            Check.eq("1 has " + what, x.has(what), 0);
        }
        Check.eq("1 fault", x.fault(0), 0);
        none("1 place", x.fault(1));
        for (int kind = 0; kind < 3; kind++) {
            none("1 letter", x.letter(kind, 0, 0));
        }
        for (int what = 0; what < 10; what++) {
            none("1 brook", x.brook(0, what));
            none("1 deed", x.deed(0, what));
            none("1 kept", x.kept(0, what));
            none("1 later", x.later(0, what));
            none("1 dip", x.dip(0, what));
            none("1 share", x.share(what));
            none("1 thinned", x.thinned(1, 0, NONE, what));
            none("1 thinned", x.thinned(1, 0, 0, what));
            none("1 outflow", x.outflow(what));
            none("1 octet", x.octet(what));
        }
        none("1 miles", x.miles(0));
        none("1 fade", x.fade(0));
        none("1 soonest", x.soonest(0));
        none("1 all", x.all(0));
        none("1 all", x.all(1));
        none("1 brief", x.brief(0));
        Check.eq("1 missed", x.missed(), 0);
        Check.eq("1 an image", x.image(), 7);
        int[] due = Lakes.image(0, 0, 0);
        for (int k = 0; k < 7; k++) {
            Check.eq("1 an image's byte", x.octet(k), due[k]);
        }
        none("1 behind an image", x.octet(7));
        for (int what = 0; what < 6; what++) {
            Check.eq("1 nothing was refused", x.status(what), 0);
        }
        Check.yes("1 the first n bytes of an empty tape", x.end(0));
        Check.eq("1 feed", x.feed(1, 2, 3, 4, 5), 20);
    }

    /** What was refused stays counted over a SHORE, an image, an undo. */
    private static void countsGoOn() {
        InkLake x = new InkLake();
        x.end(1);
        x.shore();
        x.write(0);
        x.seasons(1);
        x.undo();
        x.seed(-1);
        Check.eq("33 a SHORE", Lakes.shore(x, Lakes.PLAIN), 7);
        x.pour(1);
        x.undo();
        Check.yes("33 an image", Lakes.on(x, Lakes.image(0, 1, 1, 0, 0, 0, 99, 0, 0, 0, 99)));
        for (int what = 0; what < 6; what++) {
            Check.eq("33 counted still " + what, x.status(what), 1);
        }
        Lakes.outflows(x);
        x.pour(0);
        x.years(0);
        x.undo();
        x.on();
        x.end(-1);
        for (int what = 0; what < 6; what++) {
            Check.eq("33 the other calls count there, too " + what, x.status(what), 2);
        }
    }
}
