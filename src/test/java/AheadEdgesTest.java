/** The edges of Terms III: each sentence that names one, by itself. */
public final class AheadEdgesTest {
    private static final int NONE = InkLake.NONE;
    private static final int LAST = 999;

    public static void main(String[] args) {
        sixtyAhead();
        notBeyondTheLastSeason();
        aheadWithoutDraws();
        aheadNothingIsWritten();
        fadedBehindSixty();
        fadedTillTheLastSeason();
        soonestBehindSixty();
        soonestTillItsTerm();
        dippedBlackest();
        dippedBehindSixty();
        dippedTillItsTerm();
        missedBehindItsTerm();
        missedUnlessWritten();
        sharedNothing();
        sharedWorthMost();
        sharedFewestBuckets();
        sharedLeastBits();
        sharedOneBehindTheOther();
        sharedToTheLastBucket();
        allOfNoneAndOfNoneSuch();
        allWithinSixty();
        allTillTheLastSeason();
        allByNumbers();
        allThatAreLeft();
        thinnedBy1To999();
        thinnedToBuckets();
        thinnedToDark();
        thinnedSets();
        thinnedInTheNextSeason();
        thinnedAtTheLastSeason();
        outflowFrom0To999();
        outflowNoneBelow0();
        outflowTakesNoGrains();
        outflowRows();
        outflowLevels();
        outflowTillTheLastSeason();
        outflowOfTheLatest();
        shortByOneLetter();
        shortByAll();
        shortAmongDeedsAlone();
        Check.finish();
    }

    private static InkLake lake(int has, int black, int holds, String rest) {
        return Lakes.of("lake has " + has + " black " + black + " holds " + holds + ";" + rest);
    }

    private static String deed(int needs, int term) {
        return "village v miles 0;deed d of v needs " + needs + " worth 3 by " + term + ";";
    }

    /** A lake with a DEED that is written, so many SEASONS ahead of SEASON 999. */
    private static InkLake near(int left, int ink, String rest) {
        InkLake x = lake(9, 9, 9999, deed(1, 99) + rest);
        Check.yes("III near SEASON 999", Lakes.on(x, Lakes.image(LAST - left, 9, 9, 1, ink >> 8, ink & 255, 0)));
        return x;
    }

    private static void sixtyAhead() {
        InkLake x = lake(0, 0, 9999, "brook b gives 2 black 3;");
        int[] good = {0, 1, 2, 59, 60};
        for (int n : good) {
            Check.eq("III BUCKETS " + n + " AHEAD", x.later(n, 0), 2 * n);
            Check.eq("III GRAINS " + n + " AHEAD", x.later(n, 1), 3 * n);
            Check.eq("III DARK " + n + " AHEAD", x.later(n, 2), n == 0 ? 0 : 150);
            Check.eq("III READ " + n + " AHEAD", x.later(n, 3), 0);
        }
        for (int what = 0; what < 4; what++) {
            Check.eq("III 61 AHEAD", x.later(61, what), NONE);
            Check.eq("III -1 AHEAD", x.later(-1, what), NONE);
        }
        Check.eq("12 others", x.later(0, 4), NONE);
        Check.eq("12 others", x.later(60, -1), NONE);
        x.seasons(1);
        Check.eq("III from now on", x.later(60, 0), 122);
    }

    private static void notBeyondTheLastSeason() {
        for (int left : new int[] {0, 1, 2, 58, 59, 60, 61, 62}) {
            InkLake x = near(left, 9, "brook b gives 1 black 0;");
            int most = Math.min(60, left);
            Check.eq("III till SEASON 999: " + left, x.later(most, 0), 9 + most);
            Check.eq("III beyond SEASON 999: " + left, x.later(most + 1, 0), NONE);
            Check.eq("III far beyond SEASON 999: " + left, x.later(61, 0), NONE);
        }
    }

    private static void aheadWithoutDraws() {
        InkLake x = lake(0, 0, 9999, "brook b gives 1 black 1;drought 100;");
        Check.eq("III without DRAWS", x.later(60, 0), 60);
        x = lake(0, 0, 9999, "brook b gives 1 black 1;drought 19;");
        x.later(60, 0);
        x.seasons(9);
        Check.eq("III the seed stays", x.years(1), 1);
    }

    private static void aheadNothingIsWritten() {
        InkLake x = lake(9, 9, 9, deed(1, 99));
        Check.eq("III nothing is written", x.later(60, 0), 9);
        Check.eq("III nothing is written", x.later(60, 3), 0);
        Check.eq("III nothing goes by", x.has(4) + x.has(8) + x.has(11), 0);
    }

    private static InkLake fadingBehind(int seasons) {
        InkLake x = lake(9999, 9999, 9999, deed(1, 99) + "draws 0;reads 1;fades max(0,age-" + (seasons - 2) + ")*100;");
        x.write(0);
        return x;
    }

    private static void fadedBehindSixty() {
        for (int n : new int[] {2, 3, 59, 60}) {
            InkLake x = fadingBehind(n);
            Check.eq("13 faded behind " + n, x.fade(0), n);
            Check.eq("13 READ just ahead of it", x.later(n - 1, 3), 1);
            Check.eq("13 not READ then", x.later(n, 3), 0);
            x.seasons(n - 1);
            Check.eq("13 faded behind one", x.fade(0), 1);
            x.seasons(1);
            Check.eq("13 faded now", x.fade(0), 0);
        }
        InkLake x = fadingBehind(61);
        Check.eq("13 faded behind 61", x.fade(0), NONE);
        x.seasons(1);
        Check.eq("13 faded behind 60", x.fade(0), 60);
        x = lake(0, 0, 9, deed(1, 99) + "draws 0;");
        Check.eq("13 not written", x.fade(0), NONE);
        x.write(0);
        Check.eq("13 INK 0: now", x.fade(0), 0);
        x = lake(0, 0, 9, deed(1, 99) + "draws 0;reads 0;fades 9999;");
        x.write(0);
        Check.eq("13 reads 0: all along", x.fade(0), NONE);
    }

    private static void fadedTillTheLastSeason() {
        for (int left : new int[] {0, 1, 2, 10, 59, 60, 61}) {
            int most = Math.min(60, left);
            InkLake x = near(left, most, "fades 1;");
            Check.eq("13 faded in the last SEASON AHEAD: " + left, x.fade(0), most);
            x = near(left, most + 1, "fades 1;");
            Check.eq("13 faded one behind: " + left, x.fade(0), NONE);
        }
    }

    private static void soonestBehindSixty() {
        for (int n : new int[] {0, 1, 2, 59, 60}) {
            InkLake x = lake(1, 0, 9999, "brook b gives 1 black 0;" + deed(n + 1, 99));
            Check.eq("14 soonest behind " + n, x.soonest(0), n);
        }
        InkLake x = lake(1, 0, 9999, "brook b gives 1 black 0;" + deed(62, 99));
        Check.eq("14 behind 61", x.soonest(0), NONE);
        x.seasons(1);
        Check.eq("14 behind 60", x.soonest(0), 60);
        x = lake(1, 0, 9999, deed(1, 99) + "may season<2 or season>4;");
        x.seasons(2);
        Check.eq("14 first again", x.soonest(0), 3);
        x.undo();
        x.write(0);
        Check.eq("14 never if it is written", x.soonest(0), NONE);
    }

    private static void soonestTillItsTerm() {
        for (int term : new int[] {0, 1, 30, 60}) {
            String brook = "brook b gives 1 black 0;";
            Check.eq("14 in the SEASON of its term", lake(1, 0, 9999, brook + deed(term + 1, term)).soonest(0), term);
            Check.eq("14 behind its term", lake(1, 0, 9999, brook + deed(term + 2, term)).soonest(0), NONE);
        }
        InkLake x = lake(1, 0, 9999, "brook b gives 1 black 0;" + deed(100, 99));
        x.seasons(39);
        Check.eq("14 term 99, behind 60", x.soonest(0), 60);
        x.seasons(60);
        Check.eq("14 term 99, now", x.soonest(0), 0);
        x.seasons(1);
        Check.eq("14 term 99, SEASON 100", x.soonest(0), NONE);
        Check.eq("14 in SEASON 999", near(0, 1, "").soonest(0), NONE);
    }

    private static void dip(String sentence, InkLake x, int behind, int black) {
        Check.eq(sentence + ": behind how many SEASONS", x.dip(0, 0), behind);
        Check.eq(sentence + ": how black", x.dip(0, 1), black);
    }

    private static void dippedBlackest() {
        dip("III now", lake(100, 50, 100, "brook b gives 10 black 0;" + deed(1, 99)), 0, 50);
        dip("III of like ones the soonest", lake(100, 50, 100, deed(1, 99)), 0, 50);
        dip("III of like ones that can be the soonest", lake(100, 50, 100, deed(1, 99) + "may season>7;"), 8, 50);
        dip("III blackest in the middle", lake(100, 50, 100, "brook b gives 0 black 1;" + deed(1, 99) + "may dark<70 and not dark=65;"), 19, 69);
        dip("III like ones behind", lake(1, 98, 9999, "brook b gives 0 black 1;" + deed(1, 99)), 2, 9999);
        dip("III blackest where it CAN BE", lake(100, 50, 100, "brook b gives 0 black 1;" + deed(1, 99) + "may season<3;"), 2, 52);
        dip("III without BUCKETS", lake(0, 50, 100, deed(1, 99) + "draws 0;"), 0, 0);
        dip("III never", lake(0, 50, 100, deed(1, 99)), NONE, NONE);
        InkLake x = lake(100, 50, 100, deed(1, 99));
        x.write(0);
        dip("III written", x, NONE, NONE);
        Check.eq("15 others", lake(100, 50, 100, deed(1, 99)).dip(0, 2), NONE);
        Check.eq("15 others", lake(100, 50, 100, deed(1, 99)).dip(0, -1), NONE);
    }

    private static void dippedBehindSixty() {
        InkLake x = lake(100, 50, 100, "brook b gives 0 black 1;" + deed(1, 99));
        dip("III behind 60", x, 60, 110);
        x.seasons(1);
        dip("III behind 60 from now on", x, 60, 111);
        x.seasons(38);
        dip("III behind 60, SEASON 99", x, 60, 149);
        x.seasons(1);
        dip("III behind 59, SEASON 99", x, 59, 149);
        dip("III from 61 on alone", lake(100, 50, 100, deed(1, 99) + "may season>60;"), NONE, NONE);
        dip("III from 60 on", lake(100, 50, 100, deed(1, 99) + "may season>59;"), 60, 50);
    }

    private static void dippedTillItsTerm() {
        for (int term : new int[] {0, 1, 5, 59, 60}) {
            dip("III its term " + term, lake(100, 50, 100, "brook b gives 0 black 1;" + deed(1, term)), term, 50 + term);
        }
        InkLake x = lake(100, 50, 100, "brook b gives 0 black 1;" + deed(1, 5));
        x.seasons(5);
        dip("III in the SEASON of its term", x, 0, 55);
        x.seasons(1);
        dip("III behind its term", x, NONE, NONE);
    }

    private static void missedBehindItsTerm() {
        InkLake x = lake(9, 9, 9, "village v miles 0;deed a of v needs 1 worth 1 by 0;deed b of v needs 1 worth 1 by 1;"
                + "deed c of v needs 1 worth 1 by 1;deed d of v needs 1 worth 1 by 99;");
        Check.eq("III in the SEASON of its term", x.missed(), 0);
        x.seasons(1);
        Check.eq("III one SEASON later", x.missed(), 1);
        x.seasons(1);
        Check.eq("III two SEASONS later", x.missed(), 7);
        x.seasons(97);
        Check.eq("III in SEASON 99", x.missed(), 7);
        x.seasons(1);
        Check.eq("III in SEASON 100", x.missed(), 15);
        Check.eq("III without DEEDS", lake(9, 9, 9, "").missed(), 0);
        InkLake y = lake(9, 9, 9, deed(1, 99));
        Lakes.on(y, Lakes.image(999, 9, 9, 0, 0, 0, 99));
        Check.eq("III in SEASON 999", y.missed(), 1);
    }

    private static void missedUnlessWritten() {
        InkLake x = lake(9, 9, 9, "village v miles 0;deed a of v needs 1 worth 1 by 2;deed b of v needs 1 worth 1 by 2;"
                + "deed c of v needs 1 worth 1 by 2;");
        x.write(0);
        x.seasons(2);
        x.write(1);
        x.seasons(1);
        Check.eq("III written ahead of it and in its SEASON", x.missed(), 4);
        x.undo();
        x.undo();
        x.seasons(1);
        Check.eq("III undone", x.missed(), 6);
    }

    private static void share(String sentence, InkLake x, int bits, int worth, int drawn) {
        Check.eq(sentence + ": bits", x.share(0), bits);
        Check.eq(sentence + ": worth", x.share(1), worth);
        Check.eq(sentence + ": BUCKETS", x.share(2), drawn);
        Check.eq(sentence + ": others", x.share(3), NONE);
        Check.eq(sentence + ": others", x.share(-1), NONE);
    }

    /** DEEDS a, b, .. by what each needs and is worth. */
    private static String deeds(int... needsAndWorth) {
        StringBuilder text = new StringBuilder("village v miles 0;");
        for (int k = 0; k < needsAndWorth.length; k += 2) {
            text.append("deed d").append((char) ('a' + k / 2)).append(" of v needs ").append(needsAndWorth[k]);
            text.append(" worth ").append(needsAndWorth[k + 1]).append(" by 99;");
        }
        return text.toString();
    }

    private static void sharedNothing() {
        share("III without DEEDS", lake(9, 9, 9, ""), 0, 0, 0);
        share("III without BUCKETS", lake(0, 9, 9, deeds(1, 9, 1, 9)), 0, 0, 0);
        share("III none CAN BE", lake(9, 9, 9, deeds(1, 9, 1, 9) + "may not all;"), 0, 0, 0);
        InkLake x = lake(9, 9, 9, deeds(1, 9, 1, 9));
        x.seasons(100);
        share("III behind the terms", x, 0, 0, 0);
        x.undo();
        x.write(0);
        x.write(1);
        share("III all are written", x, 0, 0, 0);
        share("III worth nothing", lake(9, 9, 9, deeds(1, 0, 1, 0)), 0, 0, 0);
        share("III worth and drawn nothing", lake(9, 9, 9, deeds(1, 0, 1, 0) + "draws 0;"), 0, 0, 0);
        share("III all that there may be", lake(9999, 9, 9999, deeds(999, 99, 999, 99, 999, 99, 999, 99, 999, 99, 999, 99, 999, 99, 999, 99)),
                255, 792, 7992);
    }

    private static void sharedWorthMost() {
        share("III worth most", lake(10, 0, 10, deeds(10, 9, 5, 5, 5, 5)), 6, 10, 10);
        share("III worth most", lake(10, 0, 10, deeds(10, 11, 5, 5, 5, 5)), 1, 11, 10);
        share("III worth one more", lake(10, 0, 10, deeds(1, 4, 10, 5)), 2, 5, 10);
        share("III worth 99 for 999", lake(999, 0, 999, deeds(999, 99, 1, 98)), 1, 99, 999);
    }

    private static void sharedFewestBuckets() {
        share("III like ones: fewest BUCKETS", lake(10, 0, 10, deeds(10, 9, 9, 9)), 2, 9, 9);
        share("III like ones: fewest BUCKETS", lake(10, 0, 10, deeds(9, 9, 10, 9)), 1, 9, 9);
        share("III like ones: none that is worth nothing", lake(10, 0, 10, deeds(1, 0, 9, 9)), 2, 9, 9);
        share("III like ones: two for less than one", lake(10, 0, 10, deeds(10, 6, 4, 3, 5, 3)), 6, 6, 9);
        share("III like ones: one for less than two", lake(10, 0, 10, deeds(5, 3, 5, 3, 9, 6)), 4, 6, 9);
        share("III BUCKETS ahead of bits", lake(10, 0, 10, deeds(7, 1, 6, 1, 5, 1) + "may level=10;"), 4, 1, 5);
    }

    private static void sharedLeastBits() {
        share("III like ones: least bits", lake(9, 0, 9, deeds(5, 3, 5, 3, 5, 3)), 1, 3, 5);
        share("III like ones: least bits of two", lake(10, 0, 10, deeds(5, 3, 5, 3, 5, 3)), 3, 6, 10);
        share("III like ones: 3 of all", lake(10, 0, 10, deeds(4, 2, 4, 2, 8, 4)), 3, 4, 8);
        share("III like ones: two of less bits than one", lake(8, 0, 8, deeds(9, 9, 9, 9, 3, 1, 5, 2, 8, 3)), 12, 3, 8);
        share("III one that draws and is worth nothing is left", lake(9, 0, 9, deeds(5, 0, 5, 3) + "draws needs*min(1,worth);"), 2, 3, 5);
    }

    private static void sharedOneBehindTheOther() {
        share("III by what is left then", lake(10, 0, 10, deeds(4, 1, 4, 1) + "draws level/2;"), 3, 2, 7);
        share("III each CAN BE then", lake(10, 0, 10, deeds(4, 1, 3, 5) + "may level=10;"), 2, 5, 3);
        share("III one that makes way", lake(10, 0, 10, deeds(1, 0, 3, 5) + "may level<10 or worth<1;"), 3, 5, 4);
        share("III by numbers alone", lake(10, 0, 10, deeds(3, 5, 1, 0) + "may level<10 or worth<1;"), 0, 0, 0);
        share("III by GRAINS as they are then", lake(2, 5, 2, deeds(1, 1, 1, 1) + "may dark=250 and level=2 or dark=300;"), 3, 2, 2);
    }

    private static void sharedToTheLastBucket() {
        share("III all BUCKETS", lake(10, 0, 10, deeds(4, 1, 6, 1)), 3, 2, 10);
        share("III one too few", lake(9, 0, 10, deeds(4, 1, 6, 1)), 1, 1, 4);
        InkLake x = lake(10, 10, 10, deeds(4, 1, 6, 1));
        x.share(0);
        Check.eq("17 nothing is written", x.has(5) * 100 + x.has(6) * 10 + x.has(8) + x.has(11), 1100);
        share("17 and again", x, 3, 2, 10);
    }

    private static void allOfNoneAndOfNoneSuch() {
        InkLake x = lake(10, 10, 10, deeds(4, 1, 6, 1));
        Check.eq("18 of none", x.all(0), 0);
        Check.eq("18 of one", x.all(1), 0);
        Check.eq("18 of the other", x.all(2), 0);
        Check.eq("18 of both", x.all(3), 0);
        int[] wrong = {4, 5, 7, 8, 255, 256, 1 << 30, Integer.MAX_VALUE, -1, -4, Integer.MIN_VALUE, Integer.MIN_VALUE + 1};
        for (int deeds : wrong) {
            Check.eq("18 of none such " + deeds, x.all(deeds), NONE);
        }
        x.write(0);
        Check.eq("18 of one that is written", x.all(1), NONE);
        Check.eq("18 of both, one is written", x.all(3), NONE);
        Check.eq("18 of the one that is not", x.all(2), 0);
        Check.eq("18 of none", x.all(0), 0);
        InkLake none = lake(10, 10, 10, "");
        Check.eq("18 without DEEDS", none.all(0), 0);
        Check.eq("18 without DEEDS", none.all(1), NONE);
        InkLake eight = lake(10, 10, 10, deeds(1, 1, 1, 1, 1, 1, 1, 1, 1, 1, 1, 1, 1, 1, 1, 1));
        Check.eq("18 of eight", eight.all(255), 0);
        Check.eq("18 of a ninth", eight.all(256), NONE);
        Check.eq("18 nothing is written", eight.has(8) + eight.has(11), 0);
    }

    private static void allWithinSixty() {
        for (int n : new int[] {0, 1, 2, 59, 60}) {
            Check.eq("18 behind " + n, lake(1, 0, 9999, "brook b gives 1 black 0;" + deed(n + 1, 99)).all(1), n);
        }
        InkLake x = lake(1, 0, 9999, "brook b gives 1 black 0;" + deed(62, 99));
        Check.eq("18 behind 61", x.all(1), NONE);
        x.seasons(1);
        Check.eq("18 behind 60", x.all(1), 60);
        Check.eq("18 in the SEASON of its term", lake(1, 0, 9999, "brook b gives 1 black 0;" + deed(6, 5)).all(1), 5);
        Check.eq("18 behind its term", lake(1, 0, 9999, "brook b gives 1 black 0;" + deed(7, 5)).all(1), NONE);
        InkLake y = lake(0, 0, 9999, "brook b gives 1 black 0;" + deeds(30, 1, 30, 1));
        Check.eq("18 both within 60", y.all(3), 60);
        Check.eq("18 one within 60", y.all(2), 30);
        InkLake z = lake(0, 0, 9999, "brook b gives 1 black 0;" + deeds(30, 1, 31, 1));
        Check.eq("18 both behind 61", z.all(3), NONE);
    }

    private static void allTillTheLastSeason() {
        // No term is beyond SEASON 99, so in SEASON 940 and later none is written AHEAD, anyway.
        for (int season : new int[] {99, 100, 939, 940, 998, 999}) {
            InkLake x = lake(9, 9, 9, deed(1, 99));
            Lakes.on(x, Lakes.image(season, 9, 9, 0, 0, 0, 99));
            Check.eq("18 in SEASON " + season, x.all(1), season == 99 ? 0 : NONE);
            Check.eq("18 of none in SEASON " + season, x.all(0), 0);
        }
    }

    private static void allByNumbers() {
        // a takes 6 of 10 now, b 6 of 8 a SEASON later; c 4 of 10, if it may be now.
        InkLake x = lake(10, 0, 10, "brook b gives 4 black 0;" + deeds(6, 1, 6, 1, 4, 1));
        Check.eq("18 by numbers: a and b", x.all(3), 1);
        Check.eq("18 by numbers: a and c", x.all(5), 0);
        Check.eq("18 by numbers: b and c", x.all(6), 0);
        Check.eq("18 by numbers: all", x.all(7), 2);
        InkLake y = lake(10, 0, 10, deeds(1, 1, 1, 0) + "may worth<1 or level<10;");
        Check.eq("18 b now, a a SEASON later", y.all(3), 1);
        Check.eq("18 a alone never", y.all(1), NONE);
        InkLake z = lake(10, 0, 10, deeds(1, 0, 1, 1) + "may worth<1 or level<10;");
        Check.eq("18 a, then b at once", z.all(3), 0);
    }

    private static void allThatAreLeft() {
        // Those that CAN BE are written, whether or not another could have been instead.
        InkLake x = lake(10, 0, 10, deeds(6, 1, 6, 1));
        Check.eq("18 the second never", x.all(3), NONE);
        Check.eq("18 the second alone", x.all(2), 0);
        InkLake y = lake(10, 0, 10, "brook b gives 1 black 0;" + deeds(5, 1, 10, 1) + "may season<6 or worth>1;");
        Check.eq("18 b in SEASON 5", y.all(3), 5);
    }

    private static void thinned(String sentence, InkLake x, int[] told, int sets, int inAll, int inSome) {
        Check.eq(sentence + ": sets", x.thinned(told[0], told[1], told[2], 0), sets);
        Check.eq(sentence + ": in all", x.thinned(told[0], told[1], told[2], 1), inAll);
        Check.eq(sentence + ": in some", x.thinned(told[0], told[1], told[2], 2), inSome);
        Check.eq(sentence + ": others", x.thinned(told[0], told[1], told[2], 3), NONE);
        Check.eq(sentence + ": others", x.thinned(told[0], told[1], told[2], -1), NONE);
    }

    private static int[] told(int more, int buckets, int dark) {
        return new int[] {more, buckets, dark};
    }

    private static void thinnedBy1To999() {
        InkLake x = lake(10, 0, 9999, "brook a gives 1 black 0;brook b gives 1 black 0;");
        thinned("19 one more", x, told(1, 13, NONE), 2, 0, 3);
        thinned("19 two more", x, told(2, 14, NONE), 2, 0, 3);
        thinned("19 998 more", x, told(998, 1010, NONE), 2, 0, 3);
        thinned("19 999 more", x, told(999, 1011, NONE), 2, 0, 3);
        thinned("19 999 more of both", x, told(999, 2010, NONE), 1, 3, 3);
        for (int more : new int[] {0, -1, 1000, 1001, Integer.MAX_VALUE, Integer.MIN_VALUE}) {
            thinned("19 so many more can't be", x, told(more, 12, NONE), NONE, NONE, NONE);
        }
    }

    private static void thinnedToBuckets() {
        InkLake x = lake(0, 0, 9999, "brook a gives 0 black 0;");
        thinned("19 no BUCKETS", x, told(1, 0, NONE), 1, 0, 0);
        thinned("19 one BUCKET", x, told(1, 1, NONE), 1, 1, 1);
        thinned("19 BUCKETS by no set", x, told(1, 2, NONE), 0, 0, 0);
        thinned("19 BUCKETS below 0", x, told(1, -1, NONE), NONE, NONE, NONE);
        InkLake full = lake(9998, 0, 9999, "brook a gives 1 black 0;");
        thinned("19 9999 BUCKETS, one runs over or none", full, told(1, 9999, NONE), 2, 0, 1);
        thinned("19 10000 BUCKETS", full, told(1, 10000, NONE), NONE, NONE, NONE);
        InkLake small = lake(5, 0, 10, "brook a gives 1 black 0;");
        thinned("19 as many as it holds", small, told(4, 10, NONE), 1, 1, 1);
        thinned("19 more than it holds", small, told(999, 11, NONE), 0, 0, 0);
        InkLake dry = lake(50, 0, 100, "brook a gives 50 black 0;dries 10;");
        thinned("19 dried up then", dry, told(1, 90, NONE), 2, 0, 1);
    }

    private static void thinnedToDark() {
        InkLake x = lake(1, 9999, 9999, "brook a gives 0 black 0;");
        thinned("19 DARK 9999", x, told(99, 1, 9999), 1, 0, 0);
        thinned("19 DARK 9999 of a hundred", x, told(99, 100, 9999), 1, 1, 1);
        thinned("19 DARK 9998", x, told(99, 100, 9998), 0, 0, 0);
        thinned("19 DARK 10000", x, told(99, 100, 10000), NONE, NONE, NONE);
        thinned("19 DARK not told", x, told(99, 100, NONE), 1, 1, 1);
        thinned("19 DARK below", x, told(99, 100, -2), NONE, NONE, NONE);
        InkLake none = lake(0, 7, 9999, "brook a gives 0 black 0;");
        thinned("19 DARK 0 without BUCKETS", none, told(9, 0, 0), 1, 0, 0);
        thinned("19 no GRAINS go with what is more", none, told(7, 7, 100), 1, 1, 1);
        thinned("19 DARK by what ran over", lake(10, 100, 10, "brook a gives 0 black 0;"), told(10, 10, 500), 1, 1, 1);
    }

    private static void thinnedSets() {
        StringBuilder six = new StringBuilder();
        for (int k = 0; k < 6; k++) {
            six.append("brook b").append((char) ('a' + k)).append(" gives ").append(k).append(" black 0;");
        }
        InkLake x = lake(0, 0, 9999, six.toString());
        int[] sets = {1, 6, 15, 20, 15, 6, 1};
        for (int k = 0; k <= 6; k++) {
            thinned("19 sets of " + k + " of 6", x, told(10, 15 + 10 * k, NONE), sets[k], k == 6 ? 63 : 0, k == 0 ? 0 : 63);
        }
        InkLake full = lake(9999, 0, 9999, six.toString());
        thinned("19 all 64 sets", full, told(1, 9999, NONE), 64, 0, 63);
        thinned("19 without BROOKS", lake(5, 0, 9, ""), told(1, 5, NONE), 1, 0, 0);
        thinned("19 without BROOKS, other BUCKETS", lake(5, 0, 9, ""), told(1, 6, NONE), 0, 0, 0);
        thinned("19 without a lake", new InkLake(), told(1, 0, NONE), NONE, NONE, NONE);
    }

    private static void thinnedInTheNextSeason() {
        InkLake x = lake(10, 0, 9999, "brook a gives 5 black 0;brook b gives 3 black 0;drought 100;");
        thinned("19 the next SEASON alone, without DRAWS", x, told(2, 20, NONE), 2, 0, 3);
        x.seasons(1);
        thinned("19 the next from now on", x, told(2, 28, NONE), 2, 0, 3);
        Check.eq("19 nothing goes by", x.has(4) * 100 + x.has(5), 118);
    }

    private static void thinnedAtTheLastSeason() {
        thinned("19 SEASON 999 is the next one", near(1, 9, "brook a gives 1 black 0;"), told(5, 15, NONE), 1, 1, 1);
        thinned("19 there is no SEASON 1000", near(0, 9, "brook a gives 1 black 0;"), told(5, 15, NONE), NONE, NONE, NONE);
    }

    private static void outflows(String sentence, InkLake x, int[] levels, int count, int least, int greatest) {
        Check.eq(sentence + ": how many", Lakes.outflows(x, levels), count);
        Check.eq(sentence + ": the least", x.outflow(0), least);
        Check.eq(sentence + ": the greatest", x.outflow(1), greatest);
        Check.eq(sentence + ": others", x.outflow(2), NONE);
        Check.eq(sentence + ": others", x.outflow(-1), NONE);
    }

    private static int[] rows(int... levels) {
        return levels;
    }

    private static void outflowFrom0To999() {
        InkLake x = lake(2000, 0, 9999, "brook b gives 10 black 0;");
        outflows("III OUTFLOW 0", x, rows(2010), 1, 0, 0);
        outflows("III OUTFLOW 1", x, rows(2009), 1, 1, 1);
        outflows("III OUTFLOW 998", x, rows(1012), 1, 998, 998);
        outflows("III OUTFLOW 999", x, rows(1011), 1, 999, 999);
        outflows("III no OUTFLOW 1000", x, rows(1010), 0, NONE, NONE);
        outflows("III none below 0", x, rows(2011), 0, NONE, NONE);
        Check.eq("20 not refused", x.status(1), 0);
        InkLake empty = lake(0, 0, 9, "");
        outflows("III any OUTFLOW", empty, rows(0), 1000, 0, 999);
        outflows("III any OUTFLOW, ten rows", empty, rows(0, 0, 0, 0, 0, 0, 0, 0, 0, 0), 1000, 0, 999);
    }

    private static void outflowNoneBelow0() {
        InkLake x = lake(100, 0, 9999, "brook b gives 10 black 0;");
        outflows("III all BUCKETS and more", x, rows(10), 900, 100, 999);
        outflows("III one is left", x, rows(11), 1, 99, 99);
        outflows("III all but what the BROOK gives", x, rows(10, 10), 900, 100, 999);
        outflows("III empty in the second SEASON", x, rows(55, 10), 1, 55, 55);
        outflows("III just empty", lake(999, 0, 9999, ""), rows(0), 1, 999, 999);
        outflows("III not quite empty", lake(1000, 0, 9999, ""), rows(1), 1, 999, 999);
        outflows("III ahead of the BROOKS", lake(0, 0, 9999, "brook b gives 10 black 0;"), rows(10, 10), 990, 10, 999);
        outflows("III runs over behind it", lake(10, 0, 10, "brook b gives 4 black 0;"), rows(10), 5, 0, 4);
        outflows("III dries behind it", lake(100, 0, 100, "brook b gives 20 black 0;dries 50;"), rows(50), 22, 0, 21);
        outflows("III dries of what is left", lake(100, 0, 100, "dries 50;"), rows(45), 2, 10, 11);
    }

    private static void outflowTakesNoGrains() {
        InkLake x = lake(100, 100, 100, "");
        outflows("III an OUTFLOW", x, rows(50), 1, 50, 50);
        Check.eq("III nothing flows", x.has(5) * 1000 + x.has(6), 100100);
        Check.eq("III nothing goes by", x.has(4) + x.has(11), 0);
    }

    private static void outflowRows() {
        int[] ten = {10, 10, 10, 10, 10, 10, 10, 10, 10, 10};
        for (int rows = 0; rows <= 12; rows++) {
            InkLake x = lake(10, 0, 10, "");
            int[] levels = new int[rows];
            for (int k = 0; k < rows; k++) {
                levels[k] = 10;
            }
            boolean good = rows >= 1 && rows <= 10;
            outflows("20 rows " + rows, x, levels, good ? 1 : NONE, good ? 0 : NONE, good ? 0 : NONE);
            Check.eq("20 rows refused " + rows, x.status(1), good ? 0 : 1);
        }
        for (int length = 1; length <= 21; length += 2) {
            InkLake x = lake(10, 0, 10, "");
            Lakes.put(x, new int[length]);
            Check.eq("20 half a row " + length, x.outflows(), NONE);
            Check.eq("20 half a row is refused " + length, x.status(1), 1);
        }
        InkLake last = lake(50, 0, 50, "");
        outflows("20 the tenth row counts", last, rows(45, 40, 35, 30, 25, 20, 15, 10, 5, 0), 1, 5, 5);
        outflows("20 the tenth row is another", last, rows(45, 40, 35, 30, 25, 20, 15, 10, 5, 1), 0, NONE, NONE);
        outflows("20 the first row is another", last, rows(46, 40, 35, 30, 25, 20, 15, 10, 5, 0), 0, NONE, NONE);
        outflows("20 ten like rows", lake(10, 0, 10, ""), ten, 1, 0, 0);
    }

    private static void outflowLevels() {
        InkLake x = lake(9999, 0, 9999, "");
        outflows("20 the higher byte first", x, rows(9999), 1, 0, 0);
        outflows("20 both bytes", x, rows(9984), 1, 15, 15);
        outflows("20 the higher byte alone", x, rows(9728), 1, 271, 271);
        outflows("20 more than it holds", x, rows(10000), 0, NONE, NONE);
        outflows("20 the greatest two bytes", x, rows(65535), 0, NONE, NONE);
        Check.eq("20 none is refused", x.status(1), 0);
    }

    private static void outflowTillTheLastSeason() {
        for (int left = 0; left <= 11; left++) {
            for (int rows = 1; rows <= 10; rows++) {
                InkLake x = near(left, 9, "");
                int[] levels = new int[rows];
                boolean good = rows <= left;
                outflows("20 " + rows + " SEASONS of " + left, x, levels, good ? 991 : NONE, good ? 9 : NONE, good ? 999 : NONE);
                Check.eq("20 beyond SEASON 999 is refused", x.status(1), good ? 0 : 1);
            }
        }
    }

    private static void outflowOfTheLatest() {
        InkLake x = lake(10, 0, 10, "");
        Check.eq("21 without", x.outflow(0), NONE);
        Check.eq("21 without", x.outflow(1), NONE);
        outflows("21 the first", x, rows(8), 1, 2, 2);
        outflows("21 the latest", x, rows(7), 1, 3, 3);
        Lakes.put(x, 1);
        Check.eq("21 a refused one", x.outflows(), NONE);
        Check.eq("21 the latest that was not refused", x.outflow(0), 3);
        x.seasons(1);
        Check.eq("21 of this SHORE", x.outflow(1), 3);
        Lakes.shore(x, "lake");
        Check.eq("21 still this SHORE", x.outflow(1), 3);
        outflows("21 one that finds none", x, rows(77), 0, NONE, NONE);
        outflows("21 one more", x, rows(6), 1, 4, 4);
        Lakes.shore(x, "lake has 10 black 0 holds 10;");
        Check.eq("21 of another SHORE", x.outflow(0), NONE);
        Check.eq("21 of another SHORE", x.outflow(1), NONE);
    }

    private static InkLake named(String... names) {
        StringBuilder text = new StringBuilder("lake has 1 black 1 holds 1;village zz miles 0;");
        for (String name : names) {
            text.append("deed ").append(name).append(" of zz needs 1 worth 1 by 1;");
        }
        return Lakes.of(text.toString());
    }

    private static void brief(InkLake x, int... due) {
        for (int deed = 0; deed < due.length; deed++) {
            Check.eq("III SHORT " + deed, x.brief(deed), due[deed]);
        }
        Check.eq("22 none such", x.brief(due.length), NONE);
        Check.eq("22 none such", x.brief(-1), NONE);
    }

    private static void shortByOneLetter() {
        brief(named("a"), 1);
        brief(named("abcdef"), 1);
        brief(named("a", "b"), 1, 1);
        brief(named("abcdef", "bbcdef"), 1, 1);
        brief(named("a", "b", "c", "d", "e", "f", "g", "h"), 1, 1, 1, 1, 1, 1, 1, 1);
        brief(named());
    }

    private static void shortByAll() {
        brief(named("a", "ab"), 1, 2);
        brief(named("ab", "a"), 2, 1);
        brief(named("abcdef", "abcde"), 6, 5);
        brief(named("abcdef", "abcdeg"), 6, 6);
        brief(named("abcdef", "abcdf", "abce", "abd", "ac", "b"), 5, 5, 4, 3, 2, 1);
        brief(named("a", "aa", "aaa", "aaaa", "aaaaa", "aaaaaa"), 1, 2, 3, 4, 5, 6);
        brief(named("aaaaaa", "aaaaa", "ab", "abb"), 6, 5, 2, 3);
    }

    private static void shortAmongDeedsAlone() {
        InkLake x = Lakes.of("lake has 1 black 1 holds 1;brook abc gives 1 black 1;village abd miles 0;"
                + "deed abe of abd needs 1 worth 1 by 1;deed b of abd needs 1 worth 1 by 1;");
        brief(x, 1, 1);
        x = Lakes.of("lake has 1 black 1 holds 1;village va miles 0;village vb miles 0;village vc miles 0;village vd miles 0;"
                + "village ve miles 0;village dab miles 0;deed dac of va needs 1 worth 1 by 1;deed e of va needs 1 worth 1 by 1;");
        brief(x, 1, 1);
        brief(named("az", "bz", "cz", "dz", "ez", "fz", "gz", "hz"), 1, 1, 1, 1, 1, 1, 1, 1);
        // DEEDS of the SHORES ahead are none of this one.
        x = named("abc", "abd", "abe", "abf");
        for (int k = 0; k < 3; k++) {
            Lakes.shore(x, "lake has 1 black 1 holds 1;village zz miles 0;deed abg of zz needs 1 worth 1 by 1;");
            brief(x, 1);
        }
    }
}
