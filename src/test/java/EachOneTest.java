/** Each BROOK, VILLAGE, DEED, rule by itself: what is told of one is told of no other one, and of none such nothing. */
public final class EachOneTest {
    private static final int NONE = InkLake.NONE;
    private static final int DEEDS = 8;
    private static final int[] NONE_SUCH = {DEEDS, 9, 15, 16, 31, 32, 33, 39, 40, 64, 128, 256, 65536, 1 << 30, Integer.MAX_VALUE,
        -1, -8, -31, -32, -64, -256, Integer.MIN_VALUE, Integer.MIN_VALUE + 1};

    public static void main(String[] args) {
        writtenByItself();
        asItIsInItsRow();
        fadedEachByItsOwn();
        agedEachByItsOwn();
        aheadEachByItsOwn();
        undoneEachByItsOwn();
        imagedEachByItsOwn();
        inAnotherShore();
        inAnotherShoreOfFewer();
        sharedByNumbers();
        sharedWithItsGrains();
        allByNumbers();
        rulesInAnyOrder("", 0);
        noneSuch();
        noneSuchAsBits();
        Check.finish();
    }

    /** Eight DEEDS of six VILLAGES: DEED k needs 10 (k + 1), is worth k, its term is 20 + k. */
    private static InkLake eight(int has, int black, String rest) {
        StringBuilder text = new StringBuilder("lake has " + has + " black " + black + " holds 9999;" + rest);
        for (int k = 0; k < 6; k++) {
            text.append("village v").append((char) ('a' + k)).append(" miles ").append(70 + k).append(';');
        }
        for (int k = 0; k < DEEDS; k++) {
            text.append("deed d").append((char) ('a' + k)).append(" of v").append((char) ('a' + k * 5 % 6)).append(" needs ");
            text.append(10 * (k + 1)).append(" worth ").append(k).append(" by ").append(20 + k).append(';');
        }
        return Lakes.of(text.toString());
    }

    private static void writtenByItself() {
        for (int k = 0; k < DEEDS; k++) {
            InkLake x = eight(1000, 500, "fades 50;");
            Check.eq("23 DEED " + k, x.write(k), 50);
            for (int j = 0; j < DEEDS; j++) {
                int it = j == k ? 1 : 0;
                Check.eq("9 whether written: " + j + " of " + k, x.deed(j, 4), it);
                Check.eq("9 INK: " + j + " of " + k, x.deed(j, 5), 50 * it);
                Check.eq("9 age: " + j + " of " + k, x.deed(j, 6), 99 - 99 * it);
                Check.eq("9 whether it CAN BE: " + j + " of " + k, x.deed(j, 8), 1 - it);
                Check.eq("9 whether READ: " + j + " of " + k, x.deed(j, 9), it);
                Check.eq("13 fade: " + j + " of " + k, x.fade(j), j == k ? 1 : NONE);
                Check.eq("14 soonest: " + j + " of " + k, x.soonest(j), j == k ? NONE : 0);
                Check.eq("15 dip: " + j + " of " + k, x.dip(j, 0), j == k ? NONE : 0);
                Check.eq("18 all: " + j + " of " + k, x.all(1 << j), j == k ? NONE : 0);
                Check.eq("29 ink: " + j + " of " + k, Lakes.ask(x, "often number=" + j + " and ink=50"), it);
            }
            Check.eq("12 READ now", x.later(0, 3), 1 << k);
            Check.eq("12 READ one SEASON AHEAD", x.later(1, 3), 0);
            Check.eq("17 all others", x.share(0), 255 - (1 << k) - (k == 0 ? 0 : 1));
            Check.eq("11 the one KEPT", x.kept(0, 1), k);
            Check.eq("11 its BUCKETS", x.kept(0, 3), 10 * (k + 1));
            x.seasons(28);
            Check.eq("16 all others missed", x.missed(), 255 - (1 << k));
        }
    }

    private static void asItIsInItsRow() {
        StringBuilder brooks = new StringBuilder();
        for (int k = 0; k < 6; k++) {
            brooks.append("brook c").append((char) ('u' + k)).append(" gives ").append(3 * k + 1).append(" black ").append(900 - k).append(';');
        }
        InkLake x = eight(1000, 500, brooks + "draws needs*2+miles;");
        for (int k = 0; k < 6; k++) {
            Check.eq("8 BUCKETS of BROOK " + k, x.brook(k, 0), 3 * k + 1);
            Check.eq("8 GRAINS of BROOK " + k, x.brook(k, 1), 900 - k);
            Check.eq("7 NAME of BROOK " + k, x.letter(0, k, 1), 21 + k);
            Check.eq("7 NAME of VILLAGE " + k, x.letter(1, k, 1), 1 + k);
            Check.eq("10 miles of VILLAGE " + k, x.miles(k), 70 + k);
        }
        for (int k = 0; k < DEEDS; k++) {
            int village = k * 5 % 6;
            int[] due = {village, 10 * (k + 1), k, 20 + k, 0, 0, 99, 20 * (k + 1) + 70 + village, 1, 0};
            for (int what = 0; what < due.length; what++) {
                Check.eq("9 DEED " + k + " what " + what, x.deed(k, what), due[what]);
            }
            Check.eq("7 NAME of DEED " + k, x.letter(2, k, 1), 1 + k);
            Check.eq("22 SHORT " + k, x.brief(k), 2);
            Check.eq("29 of DEED " + k, Lakes.ask(x, "first draws=" + due[7] + " and by " + village + "=1 and term=" + due[3]), k);
        }
    }

    private static InkLake allWritten(int has, int black, String rest) {
        InkLake x = eight(has, black, rest);
        for (int k = 0; k < DEEDS; k++) {
            Check.yes("23 DEED " + k, x.write(k) >= 0);
        }
        return x;
    }

    private static void fadedEachByItsOwn() {
        int[] behind = {10, 5, 4, 3, 2, 2, 2, 2};
        InkLake x = allWritten(1000, 1000, "draws 0;fades needs;");
        for (int k = 0; k < DEEDS; k++) {
            Check.eq("13 DEED " + k + " faded behind", x.fade(k), behind[k]);
        }
        for (int n = 0; n <= 10; n++) {
            int read = 0;
            for (int k = 0; k < DEEDS; k++) {
                read |= n < behind[k] ? 1 << k : 0;
            }
            Check.eq("12 READ " + n + " SEASONS AHEAD", x.later(n, 3), read);
        }
        x.seasons(1);
        for (int k = 0; k < DEEDS; k++) {
            Check.eq("II DEED " + k + " fades by its own", x.deed(k, 5), 100 - 10 * (k + 1));
            Check.eq("13 DEED " + k + " faded behind one less", x.fade(k), behind[k] - 1);
        }
    }

    private static void agedEachByItsOwn() {
        InkLake x = eight(1000, 1000, "draws 0;fades age*10;");
        for (int k = 0; k < DEEDS; k++) {
            x.write(k);
            x.seasons(1);
        }
        // INK 100 goes by 0, 10, 20, .. : 100, 90, 70, 40, 0 behind 1, 2, .. 5 SEASONS
        int[] left = {100, 100, 90, 70, 40, 0, 0, 0, 0};
        for (int k = 0; k < DEEDS; k++) {
            Check.eq("II age of DEED " + k, x.deed(k, 6), DEEDS - k);
            Check.eq("II INK of DEED " + k, x.deed(k, 5), left[DEEDS - k]);
            Check.eq("13 DEED " + k + " faded behind", x.fade(k), Math.max(0, 5 - (DEEDS - k)));
            Check.eq("29 age of DEED " + k, Lakes.ask(x, "last age=" + (DEEDS - k)), k);
        }
    }

    private static void aheadEachByItsOwn() {
        InkLake x = eight(1000, 0, "brook b gives 0 black 10;may season=needs/5;");
        for (int k = 0; k < DEEDS; k++) {
            int n = 2 * (k + 1);
            Check.eq("14 soonest of DEED " + k, x.soonest(k), n);
            Check.eq("15 dipped DEED " + k, x.dip(k, 0), n);
            Check.eq("15 dipped DEED " + k + " how black", x.dip(k, 1), n);
            Check.eq("18 DEED " + k + " alone", x.all(1 << k), n);
            Check.eq("18 DEEDS to " + k, x.all((2 << k) - 1), n);
            Check.eq("9 DEED " + k + " not now", x.deed(k, 8), 0);
        }
        // till its term: DEED k is blackest in SEASON 20 + k
        x = eight(1000, 0, "brook b gives 0 black 10;");
        for (int k = 0; k < DEEDS; k++) {
            Check.eq("15 DEED " + k + " in the SEASON of its term", x.dip(k, 0), 20 + k);
            Check.eq("15 DEED " + k + " how black then", x.dip(k, 1), 20 + k);
        }
    }

    private static void undoneEachByItsOwn() {
        InkLake x = allWritten(1000, 1000, "draws 0;fades needs/5;");
        x.seasons(3);
        x.seasons(9);
        x.undo();
        for (int k = 0; k < DEEDS; k++) {
            Check.eq("27 INK of DEED " + k, x.deed(k, 5), 100 - 6 * (k + 1));
            Check.eq("27 age of DEED " + k, x.deed(k, 6), 3);
        }
        x.undo();
        for (int k = DEEDS - 1; k >= 0; k--) {
            Check.eq("27 INK of DEED " + k + " at first", x.deed(k, 5), 100);
            Check.eq("27 age of DEED " + k + " at first", x.deed(k, 6), 0);
            x.undo();
            Check.eq("27 DEED " + k + " isn't written", x.deed(k, 4), 0);
            Check.eq("27 INK of DEED " + k + ", not written", x.deed(k, 5), 0);
            Check.eq("27 age of DEED " + k + ", not written", x.deed(k, 6), 99);
            Check.eq("27 those ahead of it are", x.has(8), k);
        }
    }

    private static void imagedEachByItsOwn() {
        InkLake x = eight(1000, 1000, "fades 1;");
        int[] bytes = new int[4 * DEEDS];
        for (int k = 0; k < DEEDS; k++) {
            int written = k % 3 == 1 ? 0 : 1;
            bytes[4 * k] = written;
            bytes[4 * k + 1] = written * k;
            bytes[4 * k + 2] = written * (200 + k);
            bytes[4 * k + 3] = written == 1 ? 10 + k : 99;
        }
        int[] image = Lakes.image(5, 77, 88, bytes);
        Check.yes("32 eight DEEDS", Lakes.on(x, image));
        for (int k = 0; k < DEEDS; k++) {
            int written = k % 3 == 1 ? 0 : 1;
            Check.eq("32 DEED " + k + " written", x.deed(k, 4), written);
            Check.eq("32 INK of DEED " + k, x.deed(k, 5), written * (257 * k + 200));
            Check.eq("32 age of DEED " + k, x.deed(k, 6), written == 1 ? 10 + k : 99);
        }
        Check.eq("30 eight DEEDS", x.image(), image.length);
        for (int k = 0; k < image.length; k++) {
            Check.eq("31 byte " + k, x.octet(k), image[k]);
        }
    }

    private static void isAtFirst(String sentence, InkLake x, int deeds) {
        for (int k = 0; k < deeds; k++) {
            Check.eq(sentence + ": written " + k, x.deed(k, 4), 0);
            Check.eq(sentence + ": INK " + k, x.deed(k, 5), 0);
            Check.eq(sentence + ": age " + k, x.deed(k, 6), 99);
            Check.eq(sentence + ": READ " + k, x.deed(k, 9), 0);
            Check.eq(sentence + ": faded " + k, x.fade(k), NONE);
        }
        Check.eq(sentence + ": in a QUESTION", Lakes.ask(x, "most ink"), 0);
        Check.eq(sentence + ": in a QUESTION", Lakes.ask(x, "least age"), 99);
        Check.eq(sentence + ": an IMAGE", x.image(), 7 + 4 * deeds);
        for (int k = 0; k < deeds; k++) {
            Check.eq(sentence + ": INK in an IMAGE " + k, x.octet(7 + 4 * k) * 256 + x.octet(8 + 4 * k), 0);
            Check.eq(sentence + ": age in an IMAGE " + k, x.octet(9 + 4 * k), 99);
        }
    }

    private static final String OTHER = "lake has 9 black 9 holds 9;village v miles 0;";

    private static String deeds(int count) {
        StringBuilder text = new StringBuilder(OTHER);
        for (int k = 0; k < count; k++) {
            text.append("deed d").append((char) ('a' + k)).append(" of v needs 1 worth 1 by 9;");
        }
        return text.toString();
    }

    private static void inAnotherShore() {
        InkLake x = allWritten(1000, 1000, "draws 0;");
        x.seasons(2);
        Check.eq("4 another SHORE", Lakes.shore(x, deeds(DEEDS)), 2 + DEEDS);
        isAtFirst("4 without a FAULT all is as at first", x, DEEDS);
    }

    private static void inAnotherShoreOfFewer() {
        InkLake x = allWritten(1000, 1000, "draws 0;");
        x.seasons(2);
        Lakes.shore(x, deeds(3));
        isAtFirst("4 three DEEDS", x, 3);
        Check.eq("9 no fourth", x.deed(3, 5), NONE);
        Lakes.shore(x, deeds(DEEDS));
        isAtFirst("4 eight DEEDS again", x, DEEDS);
        Check.yes("32 an IMAGE of eight", Lakes.on(x, Lakes.image(1, 1, 1, 1, 0, 9, 9, 1, 0, 9, 9, 1, 0, 9, 9, 1, 0, 9, 9, 1, 0, 9, 9,
                1, 0, 9, 9, 1, 0, 9, 9, 1, 0, 9, 9)));
        Check.eq("32 all written", x.has(8), DEEDS);
        Lakes.shore(x, deeds(DEEDS));
        isAtFirst("4 behind an IMAGE", x, DEEDS);
    }

    /** A lake of 10 for two of the DEEDS alone: one of worth 0 that CAN BE at once, one of worth 9 that CAN BE behind another. */
    private static InkLake opens(int opener, int opened) {
        StringBuilder text = new StringBuilder("lake has 10 black 0 holds 10;village v miles 0;may level<10 or worth=0;");
        for (int k = 0; k < DEEDS; k++) {
            int needs = k == opener ? 1 : k == opened ? 2 : 999;
            text.append("deed d").append((char) ('a' + k)).append(" of v needs ").append(needs).append(" worth ");
            text.append(k == opened ? 9 : 0).append(" by 99;");
        }
        return Lakes.of(text.toString());
    }

    private static void sharedByNumbers() {
        for (int opener = 0; opener < DEEDS; opener++) {
            for (int opened = 0; opened < DEEDS; opened++) {
                if (opener != opened) {
                    InkLake x = opens(opener, opened);
                    boolean inOrder = opener < opened;
                    String pair = opener + " ahead of " + opened;
                    Check.eq("III one behind the other by numbers: " + pair, x.share(0), inOrder ? 1 << opener | 1 << opened : 0);
                    Check.eq("III worth by numbers: " + pair, x.share(1), inOrder ? 9 : 0);
                    Check.eq("III BUCKETS by numbers: " + pair, x.share(2), inOrder ? 3 : 0);
                }
            }
        }
    }

    private static void allByNumbers() {
        for (int opener = 0; opener < DEEDS; opener++) {
            for (int opened = 0; opened < DEEDS; opened++) {
                if (opener != opened) {
                    InkLake x = opens(opener, opened);
                    String pair = opener + " ahead of " + opened;
                    Check.eq("18 by numbers: " + pair, x.all(1 << opener | 1 << opened), opener < opened ? 0 : 1);
                    Check.eq("18 the first alone: " + pair, x.all(1 << opener), 0);
                    Check.eq("18 the other alone never: " + pair, x.all(1 << opened), NONE);
                }
            }
        }
    }

    /** Whatever was tried ahead of it, a DEED is tried with the GRAINS that there are then: DARK by one more would be seen. */
    private static void sharedWithItsGrains() {
        for (int count = 1; count <= DEEDS; count++) {
            StringBuilder text = new StringBuilder("lake has 100 black 100 holds 100;village v miles 0;may dark=100;");
            for (int k = 0; k < count; k++) {
                text.append("deed d").append((char) ('a' + k)).append(" of v needs 10 worth ").append(20 - k).append(" by 9;");
            }
            InkLake x = Lakes.of(text.toString());
            Check.eq("III with the GRAINS then, of " + count, x.share(0), (1 << count) - 1);
            Check.eq("III BUCKETS of " + count, x.share(2), 10 * count);
            Check.eq("III GRAINS stay", x.has(6), 100);
        }
        // a leaves 95 BUCKETS and 10 GRAINS, b then 65 and 7, c 60 and 7, which are 11 DARK: no d
        InkLake y = Lakes.of("lake has 100 black 10 holds 100;village v miles 0;may dark=10;deed a of v needs 5 worth 1 by 9;"
                + "deed b of v needs 30 worth 2 by 9;deed c of v needs 5 worth 1 by 9;deed d of v needs 5 worth 1 by 9;");
        Check.eq("III a, b, c: least bits of like ones", y.share(0), 7);
        Check.eq("III a, b, c: worth", y.share(1), 4);
        Check.eq("III a, b, c: BUCKETS", y.share(2), 40);
    }

    private static final String[] RULES = {"draws needs+3;", "fades age+4;", "may level>50;"};

    /** Each row of unlike rules that there can be, wherever it stands. */
    private static void rulesInAnyOrder(String told, int bits) {
        String village = "village v miles 1;";
        String deed = "deed d of v needs 7 worth 1 by 9;";
        for (String text : new String[] {told + village + deed, village + told + deed, village + deed + told}) {
            rulesHold(text, bits);
        }
        for (int k = 0; k < RULES.length; k++) {
            if ((bits >> k & 1) == 0) {
                rulesInAnyOrder(told + RULES[k], bits | 1 << k);
            }
        }
    }

    private static void rulesHold(String text, int bits) {
        int drawn = (bits & 1) != 0 ? 10 : 7;
        InkLake x = Lakes.of("lake has 50 black 50 holds 99;" + text);
        Check.eq("I draws: " + text, x.deed(0, 7), drawn);
        Check.eq("I may: " + text, x.deed(0, 8), (bits & 4) != 0 ? 0 : 1);
        x = Lakes.of("lake has 51 black 51 holds 99;" + text);
        Check.eq("I may, one BUCKET more: " + text, x.write(0), 100);
        Check.eq("I BUCKETS drawn: " + text, x.has(5), 51 - drawn);
        x.seasons(1);
        Check.eq("I fades: " + text, x.deed(0, 5), (bits & 2) != 0 ? 96 : 100);
        Check.eq("IV a QUESTION beside them: " + text, Lakes.ask(x, "most draws*100+ink"), 100 * drawn + ((bits & 2) != 0 ? 96 : 100));
    }

    private static void noneSuch() {
        InkLake x = allWritten(1000, 1000, "draws 0;fades 1;brook ba gives 1 black 1;");
        InkLake y = eight(1000, 1000, "draws 0;brook ba gives 1 black 1;");
        x.image();
        for (int none : NONE_SUCH) {
            InkLake[] both = {x, y};
            for (InkLake z : both) {
                Check.eq("9 none such " + none, z.deed(none, 1), NONE);
                Check.eq("9 none such " + none, z.deed(none, 4), NONE);
                Check.eq("13 none such " + none, z.fade(none), NONE);
                Check.eq("14 none such " + none, z.soonest(none), NONE);
                Check.eq("15 none such " + none, z.dip(none, 0), NONE);
                Check.eq("22 none such " + none, z.brief(none), NONE);
                Check.eq("23 none such " + none, z.write(none), NONE);
                Check.eq("8 none such " + none, z.brook(none, 0), NONE);
                Check.eq("10 none such " + none, z.miles(none), NONE);
                Check.eq("11 none such " + none, z.kept(none, 1), NONE);
            }
            Check.eq("31 none such " + none, x.octet(none) == NONE ? 1 : 0, none < 0 || none >= 39 ? 1 : 0);
        }
        Check.eq("23 all were refused", x.status(2) + y.status(2), 2 * NONE_SUCH.length);
        Check.eq("23 nothing was written", y.has(8), 0);
    }

    private static void noneSuchAsBits() {
        InkLake x = eight(1000, 1000, "draws 0;");
        Check.eq("18 all eight", x.all(255), 0);
        for (int shift = DEEDS; shift < 32; shift++) {
            Check.eq("18 none such: bit " + shift, x.all(1 << shift), NONE);
            Check.eq("18 none such beside one: bit " + shift, x.all(1 << shift | 1), NONE);
            Check.eq("18 none such beside all: bit " + shift, x.all(1 << shift | 255), NONE);
        }
        Check.eq("18 all bits", x.all(-1), NONE);
        InkLake three = Lakes.of(deeds(3));
        Check.eq("18 all three", three.all(7), 0);
        Check.eq("18 no fourth", three.all(8), NONE);
        Check.eq("18 no fourth beside three", three.all(15), NONE);
    }
}
