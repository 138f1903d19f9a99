import java.math.BigInteger;

/** The edges of Terms II, and of what a SUM reckons (Terms I): each sentence that names one, by itself. */
public final class LakeEdgesTest {
    private static final int NONE = InkLake.NONE;
    private static final BigInteger MODULUS = BigInteger.ONE.shiftLeft(31);
    private static final BigInteger FACTOR = BigInteger.valueOf(1103515245L);
    private static final BigInteger STEP = BigInteger.valueOf(12345L);

    public static void main(String[] args) {
        sumsAtAMillion();
        differencesAtAMillion();
        productsAtAMillion();
        quotients();
        leastAndGreatestOfTwo();
        fromTheLeftOn();
        seasonNoughtAtFirst();
        darkAtMost9999();
        darkWithoutBuckets();
        darkFloors();
        drawsNeedsWithout();
        drawsFrom0To9999();
        drawsByTheLakeAsItIs();
        canBeNoLaterThanItsTerm();
        canBeWithAsManyBuckets();
        canBeByItsTest();
        canBeOnlyOnce();
        inkAsDarkAhead();
        grainsThatGoWithWhatIsDrawn();
        noGrainsWhenNothingIsDrawn();
        brooksOneByOne();
        whatItCanNotHold();
        runsOverOnce();
        driesUp();
        grainsAtMost9999();
        fadesFrom0ToItsInk();
        fadesByWhatIsAhead();
        ageAtMost99();
        seasonAtMost999();
        readByReads();
        keptAreAllWritten();
        keptEdges();
        pouredAtMost9999();
        seasonsFrom1To100();
        twentyActs();
        eachActIsOne();
        undoBringsAllBack();
        drawsOfEachSeed();
        drawsModulo();
        drawsInOrder();
        droughtEdges();
        seedsFrom0();
        Check.finish();
    }

    private static InkLake lake(int has, int black, int holds, String rest) {
        return Lakes.of("lake has " + has + " black " + black + " holds " + holds + ";" + rest);
    }

    private static String deed(int needs, int term) {
        return "village v miles 7;deed d of v needs " + needs + " worth 3 by " + term + ";";
    }

    private static InkLake inSeason(int season, String rest) {
        InkLake x = lake(9, 9, 9, deed(1, 99) + rest);
        Check.yes("II SEASON " + season, Lakes.on(x, Lakes.image(season, 9, 9, 0, 0, 0, 99)));
        return x;
    }

    private static void sum(String text, long due) {
        InkLake x = lake(9, 9, 9, deed(1, 1));
        for (String asked : new String[] {"most ", "least ", "total "}) {
            Check.eq("I " + asked + text, Lakes.ask(x, asked + text), due);
        }
        Check.eq("I its FAULT: " + text, x.fault(0), 0);
        long drawn = Math.max(0, Math.min(9999, due));
        Check.eq("I draws " + text, lake(9, 9, 9, deed(1, 1) + "draws " + text + ";").deed(0, 7), drawn);
        InkLake y = lake(100, 9999, 100, deed(1, 1) + "draws 0;fades " + text + ";");
        y.write(0);
        y.seasons(1);
        Check.eq("I fades " + text, y.deed(0, 5), 9999 - drawn);
    }

    private static void sumsAtAMillion() {
        sum("9999*100+99", 999999);
        sum("9999*100+100", 1000000);
        sum("9999*100+101", 1000000);
        sum("1000*1000+9999", 1000000);
        sum("1000*1000+1-1", 999999);
        sum("1000*1000+1000*1000", 1000000);
        sum("1000*1000+1000*1000+(0-1000)*1000", 0);
        sum("(0-9999)*100+(0-99)", -999999);
        sum("(0-9999)*100+(0-100)", -1000000);
        sum("(0-9999)*100+(0-101)", -1000000);
        sum("(0-1000)*1000+(0-1)+1", -999999);
        sum("(0-1000)*1000+(0-1000)*1000", -1000000);
    }

    private static void differencesAtAMillion() {
        sum("0-9999*100-99", -999999);
        sum("0-9999*100-100", -1000000);
        sum("0-9999*100-101", -1000000);
        sum("0-1000*1000-1+1", -999999);
        sum("0-1000*1000-1000*1000", -1000000);
        sum("9999*100-(0-99)", 999999);
        sum("9999*100-(0-100)", 1000000);
        sum("9999*100-(0-101)", 1000000);
        sum("1000*1000-(0-1000)*1000", 1000000);
        sum("1000*1000-(0-1)-1", 999999);
    }

    private static void productsAtAMillion() {
        sum("999*1001", 999999);
        sum("1000*1000", 1000000);
        sum("101*9901", 1000000);
        sum("1000*1000*1", 1000000);
        sum("1000*1001-1", 999999);
        sum("9999*9999", 1000000);
        sum("1000*1000*(1000*1000)", 1000000);
        sum("(0-999)*1001", -999999);
        sum("(0-1000)*1000", -1000000);
        sum("(0-101)*9901", -1000000);
        sum("(0-1000)*1001+1", -999999);
        sum("1000*1000*(0-1000)*1000", -1000000);
        sum("(0-1000)*1000*((0-1000)*1000)", 1000000);
        sum("(0-1000)*(0-1001)", 1000000);
        sum("9999*9999*9999/100", 10000);
    }

    private static void quotients() {
        sum("7/0", 0);
        sum("(0-7)/0", 0);
        sum("1000*1000/0", 0);
        sum("0/0", 0);
        sum("0/7", 0);
        sum("7/1", 7);
        sum("6/7", 0);
        sum("7/7", 1);
        sum("13/7", 1);
        sum("(0-6)/7", -1);
        sum("(0-7)/7", -1);
        sum("(0-8)/7", -2);
        sum("6/(0-7)", -1);
        sum("7/(0-7)", -1);
        sum("8/(0-7)", -2);
        sum("(0-8)/(0-7)", 1);
        sum("(0-1)/(1000*1000)", -1);
        sum("1000*1000/(0-1)", -1000000);
        sum("(0-1000)*1000/(0-1)", 1000000);
        sum("1000*1000/(1000*1000)", 1);
        sum("5/(3-3)+2", 2);
    }

    private static void leastAndGreatestOfTwo() {
        sum("min(3,4)", 3);
        sum("min(4,3)", 3);
        sum("max(3,4)", 4);
        sum("max(4,3)", 4);
        sum("min(4,4)+max(4,4)", 8);
        sum("min(1000*1000,1000*1001)", 1000000);
        sum("max((0-1000)*1000,(0-1000)*1001)", -1000000);
        sum("min(0-1,0)", -1);
        sum("max(0-1,0)", 0);
    }

    private static void fromTheLeftOn() {
        sum("9-5-3", 1);
        sum("9-(5-3)", 7);
        sum("100/10/5", 2);
        sum("100/(10/5)", 50);
        sum("7/2*2", 6);
        sum("2*7/2", 7);
        sum("2+3*4-6/2", 11);
        Check.eq("I and ahead of or", lake(9, 9, 9, deed(1, 1) + "may all or not all and not all;").deed(0, 8), 1);
        Check.eq("I or in brackets", lake(9, 9, 9, deed(1, 1) + "may [all or not all] and not all;").deed(0, 8), 0);
        Check.eq("I not is of its FACT alone", lake(9, 9, 9, deed(1, 1) + "may not all or all;").deed(0, 8), 1);
    }

    private static void seasonNoughtAtFirst() {
        InkLake x = lake(9, 9, 9, deed(1, 1));
        Check.eq("II SEASON 0 at first", x.has(4), 0);
        Check.eq("II no DEED is written", x.has(8), 0);
        Check.eq("II no DEED is written", x.deed(0, 4), 0);
        Check.eq("II INK 0 while it is not", x.deed(0, 5), 0);
        Check.eq("II age 99 while it is not", x.deed(0, 6), 99);
    }

    private static void dark(int buckets, int grains, int due) {
        String text = buckets + " BUCKETS, " + grains + " GRAINS";
        InkLake x = lake(buckets, grains, 9999, deed(1, 9) + "draws dark;");
        Check.eq("II DARK by has: " + text, x.has(7), due);
        Check.eq("II DARK by later: " + text, x.later(0, 2), due);
        Check.eq("II DARK AHEAD: " + text, x.later(1, 2), due);
        Check.eq("II DARK in draws: " + text, x.deed(0, 7), due);
        x = lake(buckets, grains, 9999, deed(1, 9) + "draws 0;may dark=" + due + ";");
        Check.eq("II DARK in may: " + text, x.deed(0, 8), 1);
        Check.eq("II DARK by dip: " + text, x.dip(0, 1), due);
        Check.eq("II DARK by thinned: " + text, x.thinned(1, buckets, due, 0), 1);
        Check.eq("II INK: " + text, x.write(0), due);
    }

    private static void darkAtMost9999() {
        dark(1, 99, 9900);
        dark(1, 100, 9999);
        dark(1, 101, 9999);
        dark(1, 9999, 9999);
        dark(99, 9999, 9999);
        dark(100, 9998, 9998);
        dark(100, 9999, 9999);
        dark(101, 9999, 9900);
        dark(9999, 9999, 100);
    }

    private static void darkWithoutBuckets() {
        dark(0, 0, 0);
        dark(0, 1, 0);
        dark(0, 9999, 0);
        dark(1, 0, 0);
        dark(1, 1, 100);
    }

    private static void darkFloors() {
        dark(3, 2, 66);
        dark(3, 1, 33);
        dark(9999, 99, 0);
        dark(9999, 100, 1);
        dark(9999, 199, 1);
        dark(9999, 200, 2);
    }

    private static void drawsNeedsWithout() {
        for (int needs : new int[] {1, 2, 998, 999}) {
            InkLake x = lake(999, 0, 999, deed(needs, 9));
            Check.eq("II what it needs without", x.deed(0, 7), needs);
            Check.eq("II what it needs without", x.write(0), 0);
            Check.eq("II what it needs without", x.has(5), 999 - needs);
        }
    }

    private static void drawsFrom0To9999() {
        String[] sums = {"0-1000*1000", "0-2", "0-1", "0", "1", "9997", "9998", "9999", "9999+1", "9999+2", "1000*1000"};
        int[] due = {0, 0, 0, 0, 1, 9997, 9998, 9999, 9999, 9999, 9999};
        for (int k = 0; k < sums.length; k++) {
            InkLake x = lake(9999, 9999, 9999, deed(5, 9) + "draws " + sums[k] + ";");
            Check.eq("II DRAWS 0 .. 9999: " + sums[k], x.deed(0, 7), due[k]);
            Check.eq("II DRAWS in a QUESTION: " + sums[k], Lakes.ask(x, "most draws"), due[k]);
            Check.eq("II SHARED draws: " + sums[k], x.share(2), due[k]);
            x.write(0);
            Check.eq("II KEPT draws: " + sums[k], x.kept(0, 3), due[k]);
            Check.eq("II BUCKETS less: " + sums[k], x.has(5), 9999 - due[k]);
        }
    }

    private static void drawsByTheLakeAsItIs() {
        InkLake x = lake(40, 20, 90, "brook b gives 10 black 5;village v miles 7;deed c of v needs 8 worth 1 by 9;"
                + "deed d of v needs 4 worth 1 by 9;draws level/needs+season+dark;");
        Check.eq("II DRAWS by the lake", x.deed(0, 7) * 100 + x.deed(1, 7), 5560);
        x.seasons(1);
        Check.eq("II DRAWS a SEASON later", x.deed(0, 7) * 100 + x.deed(1, 7), (6 + 1 + 50) * 100 + 12 + 1 + 50);
        Check.eq("II DRAWS more than there is", x.deed(0, 8), 0);
    }

    private static void canBeNoLaterThanItsTerm() {
        for (int term : new int[] {0, 1, 50, 98, 99}) {
            InkLake x = lake(9, 9, 9, deed(1, term));
            if (term > 0) {
                x.seasons(term);
            }
            Check.eq("II in the SEASON of its term " + term, x.deed(0, 8), 1);
            Check.eq("II it can be then " + term, x.soonest(0), 0);
            x.seasons(1);
            Check.eq("II one later than its term " + term, x.deed(0, 8), 0);
            Check.eq("II it can't be then " + term, x.soonest(0), NONE);
            Check.eq("II it is refused then " + term, x.write(0), NONE);
            x.undo();
            Check.eq("II written in the SEASON of its term " + term, x.write(0), 100);
        }
    }

    private static void canBeWithAsManyBuckets() {
        for (int drawn : new int[] {1, 2, 500, 998, 999}) {
            Check.eq("II one BUCKET too few", lake(drawn - 1, 0, 9999, deed(drawn, 9)).write(0), NONE);
            InkLake x = lake(drawn, 0, 9999, deed(drawn, 9));
            Check.eq("II as many BUCKETS", x.write(0), 0);
            Check.eq("II none are left", x.has(5), 0);
            Check.eq("II one BUCKET more", lake(drawn + 1, 0, 9999, deed(drawn, 9)).write(0), 0);
        }
        Check.eq("II 9999 of 9999", lake(9999, 0, 9999, deed(1, 9) + "draws 9999;").write(0), 0);
        Check.eq("II 9999 of 9998", lake(9998, 0, 9999, deed(1, 9) + "draws 9999;").write(0), NONE);
        Check.eq("II nothing of nothing", lake(0, 5, 9999, deed(1, 9) + "draws 0;").write(0), 0);
        Check.eq("II one of nothing", lake(0, 5, 9999, deed(1, 9)).write(0), NONE);
    }

    private static void canBeByItsTest() {
        Check.eq("II without a TEST", lake(9, 9, 9, deed(1, 9)).write(0), 100);
        Check.eq("II its TEST holds", lake(9, 9, 9, deed(1, 9) + "may all;").write(0), 100);
        Check.eq("II its TEST does not hold", lake(9, 9, 9, deed(1, 9) + "may not all;").write(0), NONE);
        String[] signs = {"level<9", "level<10", "level>9", "level>8", "level=9", "level=8", "level=10"};
        int[] due = {NONE, 100, NONE, 100, 100, NONE, NONE};
        for (int k = 0; k < signs.length; k++) {
            Check.eq("II its TEST " + signs[k], lake(9, 9, 9, deed(1, 9) + "may " + signs[k] + ";").write(0), due[k]);
        }
    }

    private static void canBeOnlyOnce() {
        InkLake x = lake(9, 9, 9, deed(1, 99));
        x.write(0);
        Check.eq("II not if it is written", x.deed(0, 8), 0);
        Check.eq("II not if it is written", x.write(0), NONE);
        x.seasons(99);
        Check.eq("II not later, either", x.write(0), NONE);
        x.undo();
        x.undo();
        Check.eq("II if it is undone", x.write(0), 100);
    }

    private static void inkAsDarkAhead() {
        int[][] lakes = {{1, 9999, 9999}, {100, 9999, 9999}, {100, 9998, 9998}, {100, 0, 0}, {100, 1, 1}, {101, 1, 0}};
        for (int[] l : lakes) {
            InkLake x = lake(l[0], l[1], 9999, deed(1, 9));
            Check.eq("II as black as DARK", x.write(0), l[2]);
            Check.eq("II its INK", x.deed(0, 5), l[2]);
            Check.eq("II its INK in KEPT", x.kept(0, 2), l[2]);
            Check.eq("II its INK in a QUESTION", Lakes.ask(x, "most ink"), l[2]);
            Check.eq("II its age", x.deed(0, 6), 0);
        }
        InkLake y = lake(2, 100, 9999, "village v miles 1;deed c of v needs 1 worth 1 by 1;deed d of v needs 1 worth 1 by 1;");
        Check.eq("II ahead of what is drawn", y.write(0), 5000);
        Check.eq("II the next one", y.write(1), 5000);
    }

    private static void drawn(int buckets, int grains, int drawn, int left) {
        InkLake x = lake(buckets, grains, 9999, deed(1, 9) + "draws " + drawn + ";");
        x.write(0);
        Check.eq("II BUCKETS less: " + drawn + " of " + buckets, x.has(5), buckets - drawn);
        Check.eq("II GRAINS left: " + drawn + " of " + buckets + " with " + grains, x.has(6), left);
    }

    private static void grainsThatGoWithWhatIsDrawn() {
        drawn(7, 10, 3, 6);
        drawn(7, 10, 6, 2);
        drawn(7, 10, 7, 0);
        drawn(9999, 9999, 1, 9998);
        drawn(9999, 9998, 1, 9998);
        drawn(9999, 9998, 2, 9997);
        drawn(9999, 9999, 9999, 0);
        drawn(9999, 9999, 9998, 1);
        drawn(9999, 1, 9998, 1);
        drawn(9999, 1, 9999, 0);
        drawn(1, 9999, 1, 0);
        drawn(2, 9999, 1, 5000);
        drawn(5, 0, 5, 0);
    }

    private static void noGrainsWhenNothingIsDrawn() {
        drawn(0, 9999, 0, 9999);
        drawn(0, 0, 0, 0);
        drawn(1, 9999, 0, 9999);
        drawn(9999, 9999, 0, 9999);
    }

    private static void brooksOneByOne() {
        StringBuilder six = new StringBuilder();
        for (int k = 0; k < 6; k++) {
            six.append("brook b").append((char) ('a' + k)).append(" gives ").append(1 << k).append(" black ").append(3 << k).append(';');
        }
        InkLake x = lake(0, 0, 9999, six.toString());
        Check.eq("II without a SEASON", x.has(5) + x.has(6), 0);
        Check.eq("II nothing runs over", x.seasons(1), 0);
        Check.eq("II BUCKETS of six BROOKS", x.has(5), 63);
        Check.eq("II GRAINS of six BROOKS", x.has(6), 189);
        InkLake y = lake(5, 6, 9999, "");
        y.seasons(100);
        Check.eq("II without BROOKS", y.has(5) * 10 + y.has(6), 56);
        InkLake z = lake(5, 6, 9999, "brook b gives 0 black 0;brook c gives 0 black 1;brook d gives 1 black 0;");
        z.seasons(1);
        Check.eq("II BROOKS that give 0", z.has(5) * 10 + z.has(6), 67);
        InkLake most = lake(0, 0, 9999, "brook b gives 999 black 999;");
        most.seasons(1);
        Check.eq("II a BROOK that gives most", most.has(5) * 1000 + most.has(6), 999999);
    }

    private static void over(int has, int black, int holds, int gives, int more, int left) {
        InkLake x = lake(has, black, holds, "brook b gives " + gives + " black " + more + ";");
        int over = Math.max(0, has + gives - holds);
        Check.eq("25 BUCKETS that ran over " + has + "+" + gives, x.seasons(1), over);
        Check.eq("II what it holds " + has + "+" + gives, x.has(5), Math.min(holds, has + gives));
        Check.eq("II GRAINS then " + black + "+" + more, x.has(6), left);
    }

    private static void whatItCanNotHold() {
        over(8, 50, 10, 1, 0, 50);
        over(8, 50, 10, 2, 0, 50);
        over(8, 50, 10, 3, 0, 45);
        over(8, 50, 10, 3, 6, 50);
        over(10, 50, 10, 0, 7, 57);
        over(10, 50, 10, 1, 0, 45);
        over(0, 50, 1, 999, 0, 0);
        over(0, 998, 1, 999, 1, 1);
        over(0, 997, 1, 999, 1, 0);
        over(9999, 9999, 9999, 999, 999, 9999);
        over(9999, 9999, 9999, 999, 0, 9090);
        over(9999, 9999, 9999, 1, 0, 9998);
        over(9999, 1, 9999, 1, 0, 0);
        over(9999, 2, 9999, 1, 0, 1);
        over(1, 9999, 1, 1, 0, 4999);
    }

    private static void runsOverOnce() {
        // By what is there behind all BROOKS: floor(100 10 / 30), not 50 first and 25 then.
        InkLake x = lake(10, 100, 10, "brook a gives 10 black 0;brook b gives 10 black 0;");
        Check.eq("25 BUCKETS of both", x.seasons(1), 20);
        Check.eq("II GRAINS once", x.has(6), 33);
        InkLake six = lake(9999, 0, 9999, "brook a gives 999 black 0;brook b gives 999 black 0;brook c gives 999 black 0;"
                + "brook d gives 999 black 0;brook e gives 999 black 0;brook f gives 999 black 999;");
        Check.eq("25 as many as there may be", six.seasons(100), 599400);
        Check.eq("II all BUCKETS", six.has(5), 9999);
    }

    private static void dries(int has, int percent, int left) {
        InkLake x = lake(has, 77, 9999, "dries " + percent + ";");
        Check.eq("25 what dries up does not run over", x.seasons(1), 0);
        Check.eq("II dries " + percent + " of " + has, x.has(5), left);
        Check.eq("II all GRAINS stay", x.has(6), 77);
    }

    private static void driesUp() {
        dries(9999, 0, 9999);
        dries(99, 1, 99);
        dries(100, 1, 99);
        dries(199, 1, 198);
        dries(200, 1, 198);
        dries(9999, 1, 9900);
        dries(9999, 50, 5000);
        dries(1, 99, 1);
        dries(2, 99, 1);
        dries(9999, 99, 100);
        dries(1, 100, 0);
        dries(9999, 100, 0);
        dries(0, 100, 0);
        InkLake x = lake(100, 0, 100, "brook b gives 50 black 0;dries 10;");
        Check.eq("25 runs over ahead of what dries up", x.seasons(1), 50);
        Check.eq("II dries of what it holds", x.has(5), 90);
    }

    private static void grainsAtMost9999() {
        int[][] cases = {{9998, 1, 9999}, {9998, 2, 9999}, {9999, 0, 9999}, {9999, 1, 9999}, {9000, 998, 9998}, {9000, 999, 9999},
            {9001, 999, 9999}, {9999, 999, 9999}, {0, 999, 999}};
        for (int[] c : cases) {
            InkLake x = lake(0, c[0], 9999, "brook b gives 5 black " + c[1] + ";");
            x.seasons(1);
            Check.eq("II GRAINS 9999 at most: " + c[0] + "+" + c[1], x.has(6), c[2]);
        }
        InkLake over = lake(1, 9999, 1, "brook b gives 1 black 999;");
        over.seasons(1);
        Check.eq("II GRAINS run over ahead of the most", over.has(6), 5499);
        InkLake x = lake(0, 9999, 9999, "brook a gives 1 black 999;brook b gives 1 black 999;brook c gives 1 black 999;"
                + "brook d gives 1 black 999;brook e gives 1 black 999;brook f gives 1 black 999;");
        x.seasons(100);
        Check.eq("II GRAINS of six BROOKS", x.has(6), 9999);
        Check.eq("II GRAINS AHEAD", x.later(60, 1), 9999);
    }

    private static void fades(int ink, String fades, int left) {
        InkLake x = lake(100, ink, 100, deed(1, 9) + "draws 0;reads 0;fades " + fades + ";");
        Check.eq("II INK at first", x.write(0), ink);
        Check.eq("II INK AHEAD fades", x.later(1, 3), 1);
        x.seasons(1);
        Check.eq("II INK " + ink + " fades " + fades, x.deed(0, 5), left);
    }

    private static void fadesFrom0ToItsInk() {
        fades(50, "0-1000*1000", 50);
        fades(50, "0-1", 50);
        fades(50, "0", 50);
        fades(50, "1", 49);
        fades(50, "49", 1);
        fades(50, "50", 0);
        fades(50, "51", 0);
        fades(50, "1000*1000", 0);
        fades(50, "ink-1", 1);
        fades(50, "ink", 0);
        fades(50, "ink+1", 0);
        fades(0, "1", 0);
        fades(0, "0-1", 0);
        fades(9999, "9998", 1);
        fades(9999, "9999", 0);
        fades(9999, "1", 9998);
        InkLake x = lake(100, 50, 100, deed(1, 9));
        x.write(0);
        x.seasons(100);
        Check.eq("II 0 without", x.deed(0, 5), 50);
    }

    private static void fadesByWhatIsAhead() {
        fades(50, "age", 50);
        fades(50, "season", 50);
        fades(50, "ink/2", 25);
        InkLake x = lake(100, 50, 100, deed(5, 9) + "fades season*10+age;");
        x.seasons(2);
        x.write(0);
        x.seasons(1);
        Check.eq("II by the SEASON ahead, age ahead", x.deed(0, 5), 30);
        x.undo();
        x.seasons(2);
        Check.eq("II by the SEASON ahead, age ahead", x.deed(0, 5), 0);
        InkLake y = lake(100, 50, 100, "village v miles 3;village w miles 4;deed c of v needs 1 worth 5 by 9;deed d of w needs 2 worth 7 by 9;"
                + "draws 0;fades needs+worth+miles;");
        y.write(0);
        y.write(1);
        y.seasons(1);
        Check.eq("II each DEED by its own", y.deed(0, 5) * 100 + y.deed(1, 5), 4137);
    }

    private static void ageAtMost99() {
        InkLake x = lake(9, 9, 9, deed(1, 9));
        x.write(0);
        for (int age = 1; age <= 101; age++) {
            x.seasons(1);
            Check.eq("II age 99 at most: " + age, x.deed(0, 6), Math.min(99, age));
        }
        Check.eq("II age in a QUESTION", Lakes.ask(x, "most age"), 99);
        InkLake y = lake(9, 9, 9, deed(1, 9) + "fades max(0,age-98);");
        y.write(0);
        y.seasons(99);
        Check.eq("II age in fades", y.deed(0, 5), 100);
        y.seasons(100);
        Check.eq("II age in fades at most", y.deed(0, 5), 0);
        InkLake z = lake(9, 9, 9, deed(1, 9) + "fades max(0,age-98);");
        Lakes.on(z, Lakes.image(0, 9, 9, 1, 0, 9, 99));
        z.seasons(2);
        Check.eq("II age of an image at most", z.deed(0, 5) * 100 + z.deed(0, 6), 799);
    }

    private static void seasonAtMost999() {
        InkLake x = inSeason(998, "");
        Check.eq("II to SEASON 999", x.seasons(1), 0);
        Check.eq("II SEASON 999", x.has(4), 999);
        Check.eq("II SEASON 999 in a QUESTION", Lakes.ask(x, "most season"), 999);
        Check.eq("II no SEASON 1000", x.seasons(1), NONE);
        Check.eq("II no SEASON 1000 by the seed", x.years(1), NONE);
        Check.eq("II SEASON 999 still", x.has(4), 999);
        Check.eq("II both refused", x.status(3), 2);
        Check.eq("24 GRAINS can be poured in SEASON 999", x.pour(1), 10);
        Check.eq("30 SEASON 999 in an image", x.image(), 11);
        Check.eq("30 SEASON 999 in an image", x.octet(0) * 256 + x.octet(1), 999);
        Check.yes("27 back", x.undo());
        Check.yes("27 back to 998", x.undo());
        Check.eq("27 back to 998", x.has(4), 998);
        InkLake y = lake(9, 9, 9, deed(1, 99));
        for (int k = 0; k < 9; k++) {
            y.seasons(100);
        }
        Check.eq("II no SEASON 1000 by a hundred", y.seasons(100), NONE);
        Check.eq("II SEASON 999 by 99", y.years(99), 0);
        Check.eq("II SEASON 999", y.has(4), 999);
    }

    private static void readByReads() {
        int[][] cases = {{0, 0, 1}, {0, 1, 0}, {1, 0, 1}, {1, 1, 1}, {1, 2, 0}, {9998, 9999, 0}, {9999, 9999, 1}, {9999, 9998, 1}};
        for (int[] c : cases) {
            InkLake x = lake(100, c[0], 100, deed(1, 9) + "draws 0;reads " + c[1] + ";");
            Check.eq("II not READ while it is not written", x.deed(0, 9), 0);
            Check.eq("II none is READ", x.has(9), 0);
            x.write(0);
            Check.eq("II INK " + c[0] + " reads " + c[1], x.deed(0, 9), c[2]);
            Check.eq("II as many can be READ", x.has(9), c[2]);
            Check.eq("II as bits", x.later(0, 3), c[2]);
            Check.eq("II not any more", x.fade(0), c[2] == 1 ? NONE : 0);
        }
    }

    private static String eightDeeds() {
        StringBuilder text = new StringBuilder("village v miles 7;");
        for (int k = 0; k < 8; k++) {
            text.append("deed d").append((char) ('a' + k)).append(" of v needs ").append(k + 1).append(" worth ").append(k).append(" by 99;");
        }
        return text.toString();
    }

    private static void keptAreAllWritten() {
        InkLake x = lake(999, 999, 999, eightDeeds());
        Check.eq("II none KEPT", x.has(10), 0);
        Check.eq("11 none such", x.kept(0, 0), NONE);
        for (int k = 7; k >= 0; k--) {
            x.write(k);
            int there = 8 - k;
            Check.eq("II as many KEPT", x.has(10), there);
            Check.eq("11 the latest", x.kept(there - 1, 1), k);
            Check.eq("11 its BUCKETS", x.kept(there - 1, 3), k + 1);
            Check.eq("11 its SEASON", x.kept(there - 1, 0), 7 - k);
            Check.eq("11 the oldest", x.kept(0, 1), 7);
            Check.eq("11 behind the latest", x.kept(there, 1), NONE);
            x.seasons(1);
        }
        for (int k = 8; k > 0; k--) {
            x.undo();
            x.undo();
            Check.eq("27 as many KEPT", x.has(10), k - 1);
            Check.eq("27 the latest goes", x.kept(k - 1, 0), NONE);
        }
        // Written and undone again and again: what is undone is not KEPT.
        for (int k = 0; k < 45; k++) {
            x.write(k % 8);
            Check.eq("II one KEPT", x.has(10), 1);
            Check.eq("11 that one", x.kept(0, 1), k % 8);
            x.undo();
        }
        Check.eq("II none KEPT", x.has(10), 0);
    }

    private static void keptEdges() {
        InkLake x = lake(9999, 9999, 9999, deed(1, 99) + "draws level;");
        x.seasons(99);
        x.write(0);
        Check.eq("II KEPT in SEASON 99", x.kept(0, 0), 99);
        Check.eq("II KEPT with 9999 BUCKETS", x.kept(0, 3), 9999);
        InkLake y = lake(1, 9999, 9999, deed(1, 99) + "draws 0;fades 9999;");
        y.write(0);
        y.seasons(1);
        Check.eq("II KEPT with INK 9999, faded since", y.kept(0, 2), 9999);
        Check.eq("II KEPT with no BUCKETS", y.kept(0, 3), 0);
        for (int what = -1; what <= 4; what++) {
            Check.eq("11 others", y.kept(0, what) == NONE ? 1 : 0, what < 0 || what > 3 ? 1 : 0);
        }
    }

    private static void pouredAtMost9999() {
        int[][] cases = {{0, 1, 1}, {0, 999, 999}, {0, 0, NONE}, {0, 1000, NONE}, {9998, 1, 9999}, {9998, 2, NONE}, {9999, 1, NONE},
            {9000, 999, 9999}, {9001, 999, NONE}, {9001, 998, 9999}};
        for (int[] c : cases) {
            InkLake x = lake(0, c[0], 1, "");
            Check.eq("24 pour " + c[1] + " into " + c[0], x.pour(c[1]), c[2]);
            Check.eq("24 GRAINS", x.has(6), c[2] == NONE ? c[0] : c[2]);
            Check.eq("24 an ACT", x.has(11), c[2] == NONE ? 0 : 1);
            Check.eq("24 refused", x.status(2), c[2] == NONE ? 1 : 0);
        }
    }

    private static void seasonsFrom1To100() {
        for (int n : new int[] {1, 2, 99, 100}) {
            InkLake x = lake(0, 0, 5, "brook b gives 1 black 0;");
            Check.eq("25 SEASONS " + n, x.seasons(n), Math.max(0, n - 5));
            Check.eq("25 SEASON " + n, x.has(4), n);
            InkLake y = lake(0, 0, 5, "brook b gives 1 black 0;drought 100;");
            Check.eq("26 SEASONS " + n, y.years(n), n);
            Check.eq("26 SEASON " + n, y.has(4), n);
        }
        for (int n : new int[] {-1, 0, 101}) {
            InkLake x = lake(0, 0, 5, "brook b gives 1 black 0;");
            Check.eq("25 no SEASONS " + n, x.seasons(n), NONE);
            Check.eq("26 no SEASONS " + n, x.years(n), NONE);
            Check.eq("25 SEASON", x.has(4), 0);
        }
    }

    private static void twentyActs() {
        for (int acts = 18; acts <= 42; acts++) {
            InkLake x = lake(9, 0, 9, "");
            for (int k = 0; k < acts; k++) {
                x.pour(1);
            }
            int most = Math.min(20, acts);
            Check.eq("II 20 can be undone: " + acts, x.has(11), most);
            for (int k = 1; k <= most; k++) {
                Check.yes("27 undone", x.undo());
                Check.eq("27 as it was ahead of it", x.has(6), acts - k);
                Check.eq("27 as many are left", x.has(11), most - k);
            }
            Check.no("27 none is left", x.undo());
            Check.eq("27 those ahead stay", x.has(6), acts - most);
            x.pour(5);
            Check.eq("27 one more ACT", x.has(11), 1);
        }
    }

    private static void eachActIsOne() {
        InkLake x = lake(99, 99, 99, eightDeeds() + "brook b gives 1 black 1;drought 50;");
        x.seasons(100);
        Check.eq("II a hundred SEASONS are one ACT", x.has(11), 1);
        x.years(100);
        Check.eq("II a hundred by the seed are one ACT", x.has(11), 2);
        x.pour(999);
        Check.eq("II 999 GRAINS are one ACT", x.has(11), 3);
        Check.yes("27 undone", x.undo() && x.undo() && x.undo());
        Check.eq("27 back", x.has(4), 0);
        x.write(0);
        Check.eq("II a DEED is one ACT", x.has(11), 1);
        x.seed(5);
        x.image();
        Lakes.outflows(x, 5);
        Lakes.ask(x, "often all");
        x.share(0);
        x.all(2);
        x.later(60, 0);
        Check.eq("II no other call is an ACT", x.has(11), 1);
    }

    private static void undoBringsAllBack() {
        InkLake x = lake(99, 99, 99, eightDeeds() + "brook b gives 1 black 1;fades 5;drought 50;");
        x.write(3);
        x.seasons(2);
        Told before = Told.of(x);
        x.write(5);
        Check.yes("27 a DEED", x.undo());
        before.stays("27 a DEED", x, -1);
        x.pour(9);
        Check.yes("27 GRAINS", x.undo());
        before.stays("27 GRAINS", x, -1);
        InkLake y = lake(99, 99, 99, eightDeeds() + "brook b gives 1 black 1;fades 5;drought 50;");
        y.write(3);
        before = Told.of(y);
        y.seasons(100);
        Check.yes("27 SEASONS", y.undo());
        before.stays("27 SEASONS", y, -1);
        y.years(100);
        Check.yes("27 SEASONS by the seed", y.undo());
        before.stays("27 SEASONS by the seed", y, -1);
    }

    private static BigInteger next(BigInteger x) {
        return FACTOR.multiply(x).add(STEP).mod(MODULUS);
    }

    private static int drawOf(BigInteger x, int m) {
        return x.divide(BigInteger.valueOf(64)).mod(BigInteger.valueOf(m)).intValue();
    }

    /** The next DRAW by that seed is told by drought: at it the BROOK gives, one above it nothing. */
    private static void drawIs(String sentence, int seed, int due) {
        for (int drought = Math.max(0, due - 1); drought <= Math.min(100, due + 2); drought++) {
            InkLake x = lake(0, 0, 9, "brook b gives 1 black 1;drought " + drought + ";");
            Check.yes(sentence, x.seed(seed));
            Check.eq(sentence + ": seed " + seed + " drought " + drought, x.years(1), due < drought ? 1 : 0);
            Check.eq(sentence + ": BUCKETS by seed " + seed, x.has(5), due < drought ? 0 : 1);
            Check.eq(sentence + ": GRAINS by seed " + seed, x.has(6), due < drought ? 0 : 1);
        }
    }

    private static void drawsOfEachSeed() {
        int[] seeds = {0, 1, 2, 3, 4, 63, 64, 65, 1000, 12345, 65535, 65536, 1 << 20, 1 << 30, (1 << 30) - 1, Integer.MAX_VALUE - 1,
            Integer.MAX_VALUE};
        for (int seed : seeds) {
            drawIs("II a DRAW", seed, drawOf(next(BigInteger.valueOf(seed)), 100));
        }
    }

    /** Seeds by which x becomes a number told: the least, the greatest, those at each step of the DRAW. */
    private static void drawsModulo() {
        BigInteger back = FACTOR.modInverse(MODULUS);
        long[] becomes = {0, 1, 63, 64, 127, 128, 6335, 6336, 6399, 6400, 6463, 6464, (1L << 30) - 1, 1L << 30, (1L << 31) - 65,
            (1L << 31) - 64, (1L << 31) - 1};
        for (long to : becomes) {
            BigInteger seed = BigInteger.valueOf(to).subtract(STEP).multiply(back).mod(MODULUS);
            Check.eq("II x becomes", next(seed).longValue(), to);
            drawIs("II x becomes " + to, seed.intValue(), (int) (to / 64 % 100));
        }
    }

    /** For each BROOK, ahead of each SEASON: BROOKS that give unlike numbers tell which one gave nothing. */
    private static void drawsInOrder() {
        String brooks = "brook a gives 1 black 100;brook b gives 10 black 10;brook c gives 100 black 1;drought 50;";
        for (int seed : new int[] {0, 1, 77, 4711, Integer.MAX_VALUE}) {
            InkLake x = lake(0, 0, 9999, brooks);
            x.seed(seed);
            BigInteger s = BigInteger.valueOf(seed);
            int buckets = 0;
            int grains = 0;
            for (int season = 1; season <= 8; season++) {
                int dry = 0;
                for (int k = 0; k < 3; k++) {
                    s = next(s);
                    boolean gives = drawOf(s, 100) >= 50;
                    buckets += gives ? new int[] {1, 10, 100}[k] : 0;
                    grains += gives ? new int[] {100, 10, 1}[k] : 0;
                    dry += gives ? 0 : 1;
                }
                Check.eq("26 how often a BROOK gave nothing", x.years(1), dry);
                Check.eq("26 BUCKETS of the others", x.has(5), buckets);
                Check.eq("26 GRAINS of the others", x.has(6), grains);
            }
            InkLake y = lake(0, 0, 9999, brooks);
            y.seed(seed);
            y.years(8);
            Check.eq("26 eight at once", y.has(5) * 10000 + y.has(6), buckets * 10000 + grains);
        }
        InkLake none = lake(0, 0, 9, "drought 100;");
        Check.eq("26 without BROOKS", none.years(100), 0);
        Lakes.shore(none, "lake has 0 black 0 holds 9;brook b gives 1 black 1;drought 19;");
        Check.eq("26 without BROOKS there is no DRAW", none.years(1), 1);
    }

    private static void droughtEdges() {
        InkLake never = lake(0, 0, 9999, "brook b gives 1 black 0;drought 0;");
        Check.eq("26 drought 0", never.years(100), 0);
        Check.eq("26 drought 0", never.has(5), 100);
        InkLake always = lake(0, 0, 9999, "brook b gives 1 black 1;drought 100;");
        Check.eq("26 drought 100", always.years(100), 100);
        Check.eq("26 drought 100", always.has(5) + always.has(6), 0);
        Check.eq("25 SEASONS know no drought", always.seasons(100), 0);
        Check.eq("25 SEASONS know no drought", always.has(5), 100);
        Check.eq("12 SEASONS AHEAD know no drought", always.later(60, 0), 160);
    }

    private static void seedsFrom0() {
        InkLake x = new InkLake();
        Check.no("28 below 0", x.seed(-1));
        Check.no("28 far below 0", x.seed(Integer.MIN_VALUE));
        Check.yes("28 0", x.seed(0));
        Check.yes("28 1", x.seed(1));
        Check.yes("28 the greatest", x.seed(Integer.MAX_VALUE));
        Check.eq("28 two refused", x.status(5), 2);
        InkLake first = lake(0, 0, 9, "brook b gives 1 black 1;drought 19;");
        InkLake one = lake(0, 0, 9, "brook b gives 1 black 1;drought 19;");
        one.seed(1);
        for (int k = 0; k < 30; k++) {
            Check.eq("28 it is 1 at first", first.years(1), one.years(1));
        }
        InkLake same = lake(0, 0, 9, "brook b gives 1 black 1;drought 50;");
        int dry = same.years(50);
        same.seed(1);
        Check.eq("28 the seed again", same.years(50), dry);
    }
}
