/** Each promise of the document by itself: ordinary inputs, the edges that it names, wrong inputs. */
public final class PromisesTest {
    private static final int NONE = InkLake.NONE;
    private static final String PLAIN = Lakes.PLAIN;

    public static void main(String[] args) {
        aNewObject();
        feed();
        end();
        shore();
        shoreKeepsOrClears();
        fault();
        has();
        letter();
        brook();
        deed();
        deedByRules();
        miles();
        kept();
        later();
        laterDries();
        fade();
        soonest();
        dip();
        missed();
        share();
        all();
        thinned();
        outflows();
        outflow();
        brief();
        write();
        pour();
        seasons();
        years();
        undo();
        seed();
        ask();
        askFaults();
        image();
        octet();
        on();
        onRefused();
        status();
        lastSeason();
        fullShore();
        shoreAfterShore();
        Check.finish();
    }

    private static void eq(String what, long got, long due) {
        Check.eq(what, got, due);
    }

    private static void aNewObject() {
        InkLake x = new InkLake();
        for (int what = 0; what < 12; what++) {
            eq("1 has", x.has(what), 0);
        }
        for (int what = 0; what < 6; what++) {
            eq("1 status", x.status(what), 0);
        }
        eq("1 fault", x.fault(0), 0);
        eq("1 place", x.fault(1), NONE);
        eq("1 missed", x.missed(), 0);
        eq("1 deed", x.deed(0, 0), NONE);
        eq("1 none", InkLake.NONE, -1);
        eq("1 nothing", InkLake.NOTHING, -1000000000000000L);
        eq("1 the first feed", x.feed(0, 0, 0, 0, 0), 20);
    }

    private static void feed() {
        InkLake x = new InkLake();
        for (int k = 1; k <= 80; k++) {
            eq("2 feed", x.feed(0x20202020, 0x20202020, 0x20202020, 0x20202020, 0x20202020), 20 * k);
        }
        eq("2 feed of too many", x.feed(0, 0, 0, 0, 0), NONE);
        eq("2 status", x.status(0), 1);
        Check.yes("2 the tape stays", x.end(1600));
        Check.yes("2 cut", x.end(1581));
        eq("2 feed beyond by one", x.feed(0, 0, 0, 0, 0), NONE);
        Check.yes("2 cut", x.end(1580));
        eq("2 feed to the brim", x.feed(0, 0, 0, 0, 0), 1600);
        x.end(0);
        // 'often age=99' tells the order of the bytes of all five numbers
        Lakes.shore(x, PLAIN);
        eq("2 feed", x.feed(0x6f667465, 0x6e206167, 0x653d3939, 0x20202020, 0x20202020), 20);
        eq("2 bytes", x.ask(), 2);
        eq("2 feed", x.feed(0x6f667465, 0x6e206167, 0x653d3920, 0x2b202020, 0x20203930), 20);
        eq("2 bytes", x.ask(), 2);
        eq("2 high bytes", x.feed(0xff808182, 0, 0, 0, 0), 20);
        x.end(2);
        eq("2 high bytes are levels", x.outflows(), 0);
        x.feed(0x00500000, 0, 0, 0, 0);
        x.end(2);
        eq("2 a byte's worth", x.outflows(), 1);
        eq("2 a byte's worth", x.outflow(0), 55);
    }

    private static void end() {
        InkLake x = new InkLake();
        x.feed(0, 0, 0, 0, 0);
        Check.no("3 end above", x.end(21));
        Check.no("3 end below 0", x.end(-1));
        eq("3 status", x.status(0), 2);
        Check.yes("3 end", x.end(20));
        Check.yes("3 end", x.end(5));
        Check.no("3 end cannot bring back", x.end(6));
        eq("3 feed behind an end", x.feed(0, 0, 0, 0, 0), 25);
        Check.yes("3 end 0", x.end(0));
        Check.yes("3 end 0 again", x.end(0));
        Check.no("3 end 1", x.end(1));
        Check.no("3 end", x.end(Integer.MAX_VALUE));
        Check.no("3 end", x.end(Integer.MIN_VALUE));
        eq("3 status", x.status(0), 6);
    }

    private static void shore() {
        InkLake x = new InkLake();
        eq("4 shore", Lakes.shore(x, PLAIN), 7);
        eq("4 the tape goes", x.feed(0, 0, 0, 0, 0), 20);
        x.end(0);
        eq("4 empty", x.shore(), NONE);
        eq("4 empty", x.fault(1), 0);
        eq("4 blanks", Lakes.shore(x, " \n "), NONE);
        eq("4 blanks", x.fault(0), 1);
        eq("4 blanks", x.fault(1), 3);
        eq("4 refused", x.status(1), 2);
        eq("4 all stays", x.has(0) * 100 + x.has(1) * 10 + x.has(2), 222);
        eq("4 faulty", Lakes.shore(x, "lake has 1 black 1 holds 1;brook b gives 1 black 1;brook b"), NONE);
        eq("4 the tape goes of a faulty one", x.feed(0, 0, 0, 0, 0), 20);
        x.end(0);
        eq("4 all stays", x.has(3), 150);
        eq("4 all stays", x.brook(0, 0), 20);
        eq("4 lone lake", Lakes.shore(x, " lake has 0 black 9999 holds\n1 ;\n"), 1);
        eq("4 lone lake", x.has(3), 1);
        eq("4 lone lake", x.has(6), 9999);
        eq("4 lone lake", x.has(0) + x.has(1) + x.has(2), 0);
        eq("4 most", Lakes.shore(x, "lake has 9999 black 9999 holds 9999;"), 1);
        eq("4 most", x.has(7), 100);
        StringBuilder many = new StringBuilder("lake has 1 black 1 holds 1;");
        for (int k = 0; k < 69; k++) {
            many.append("reads ").append(k).append(";");
        }
        eq("4 seventy", Lakes.shore(x, many.toString()), 70);
        int length = many.length();
        eq("4 seventy-one", Lakes.shore(x, many + " #"), NONE);
        eq("4 seventy-one", x.fault(0), 5);
        eq("4 seventy-one", x.fault(1), length + 1);
    }

    private static void shoreKeepsOrClears() {
        InkLake x = Lakes.of(PLAIN + "drought 20;");
        eq("4 write", x.write(0), 250);
        eq("4 years", x.years(1), 1);
        Lakes.outflows(x, 85);
        Lakes.shore(x, "lake");
        eq("4 a fault lets all stay", x.has(10), 1);
        eq("4 a fault lets all stay", x.has(11), 2);
        eq("4 a fault lets all stay", x.has(4), 1);
        eq("4 a fault lets all stay", x.outflow(0), 35);
        eq("4 again", Lakes.shore(x, PLAIN + "drought 20;"), 8);
        eq("4 first SEASON", x.has(4), 0);
        eq("4 BUCKETS", x.has(5), 100);
        eq("4 GRAINS", x.has(6), 250);
        eq("4 none written", x.has(8), 0);
        eq("4 nothing KEPT", x.has(10), 0);
        eq("4 no ACTS", x.has(11), 0);
        eq("4 no INK", x.deed(0, 5), 0);
        eq("4 no age", x.deed(0, 6), 99);
        eq("4 no OUTFLOWS", x.outflow(0), NONE);
        eq("4 no OUTFLOWS", x.outflow(1), NONE);
        Check.no("4 nothing to undo", x.undo());
        // the seed stays: the third and the fourth DRAW are 26 and 80, the next two 16 and 14
        eq("4 years", x.years(1), 0);
        eq("4 years", x.years(1), 2);
        eq("4 refusals stay", x.status(1), 1);
        eq("4 rules go", Lakes.shore(x, "lake has 5 black 5 holds 9;brook b gives 9 black 0;dries 100;"), 3);
        eq("4 rules go", Lakes.shore(x, "lake has 5 black 5 holds 9;brook b gives 9 black 0;"), 2);
        eq("4 rules go", x.later(1, 0), 9);
    }

    private static void fault() {
        InkLake x = new InkLake();
        Lakes.shore(x, "lake has 1 black 2 holds 0;");
        eq("5 fault", x.fault(0), 2);
        eq("5 place", x.fault(1), 25);
        eq("5 others", x.fault(2), NONE);
        eq("5 others", x.fault(-1), NONE);
        eq("5 ask without a lake", Lakes.ask(x, "often all"), InkLake.NOTHING);
        eq("5 stays", x.fault(0), 2);
        eq("5 stays", x.fault(1), 25);
        eq("5 the tape goes", x.feed(0, 0, 0, 0, 0), 20);
        x.end(0);
        Lakes.shore(x, PLAIN);
        eq("5 without", x.fault(0), 0);
        eq("5 without", x.fault(1), NONE);
        Lakes.ask(x, "often");
        eq("5 of ask", x.fault(0), 1);
        eq("5 of ask", x.fault(1), 5);
        Lakes.outflows(x);
        eq("5 not of others", x.fault(0), 1);
        Lakes.ask(x, "often all");
        eq("5 of ask", x.fault(0), 0);
        eq("5 of ask", x.fault(1), NONE);
    }

    private static void has() {
        InkLake x = Lakes.of(PLAIN + "fades 300;");
        int[] first = {2, 2, 2, 150, 0, 100, 250, 250, 0, 0, 0, 0};
        for (int what = 0; what < first.length; what++) {
            eq("6 has " + what, x.has(what), first[what]);
        }
        x.write(1);
        int[] second = {2, 2, 2, 150, 0, 50, 125, 250, 1, 1, 1, 1};
        for (int what = 0; what < second.length; what++) {
            eq("6 has " + what, x.has(what), second[what]);
        }
        x.seasons(1);
        int[] third = {2, 2, 2, 150, 1, 85, 134, 157, 1, 0, 1, 2};
        for (int what = 0; what < third.length; what++) {
            eq("6 has " + what, x.has(what), third[what]);
        }
        eq("6 others", x.has(12), NONE);
        eq("6 others", x.has(-1), NONE);
        eq("6 dark at most", Lakes.of("lake has 1 black 9999 holds 1;").has(7), 9999);
        eq("6 dark at most", Lakes.of("lake has 1 black 100 holds 1;").has(7), 9999);
        eq("6 dark below", Lakes.of("lake has 1 black 99 holds 1;").has(7), 9900);
        eq("6 dark down", Lakes.of("lake has 3 black 2 holds 3;").has(7), 66);
        eq("6 dark without BUCKETS", Lakes.of("lake has 0 black 99 holds 1;").has(7), 0);
    }

    private static void letter() {
        InkLake x = Lakes.of("lake has 1 black 1 holds 1;brook az gives 0 black 0;brook b gives 0 black 0;"
                + "village abcdef miles 1;deed zyxwvu of abcdef needs 1 worth 0 by 0;deed m of abcdef needs 1 worth 0 by 0;");
        int[] az = {1, 26, 0, 0, 0, 0};
        for (int k = 0; k < 6; k++) {
            eq("7 brook", x.letter(0, 0, k), az[k]);
            eq("7 village", x.letter(1, 0, k), k + 1);
            eq("7 deed", x.letter(2, 0, k), 26 - k);
            eq("7 behind", x.letter(2, 1, k), k == 0 ? 13 : 0);
        }
        eq("7 second brook", x.letter(0, 1, 0), 2);
        eq("7 k", x.letter(0, 0, 6), NONE);
        eq("7 k", x.letter(0, 0, -1), NONE);
        eq("7 which", x.letter(0, 2, 0), NONE);
        eq("7 which", x.letter(1, 1, 0), NONE);
        eq("7 which", x.letter(2, 2, 0), NONE);
        eq("7 which", x.letter(0, -1, 0), NONE);
        eq("7 kind", x.letter(3, 0, 0), NONE);
        eq("7 kind", x.letter(-1, 0, 0), NONE);
        eq("7 far", x.letter(Integer.MAX_VALUE, Integer.MAX_VALUE, Integer.MIN_VALUE), NONE);
    }

    private static void brook() {
        InkLake x = Lakes.of(PLAIN);
        eq("8 brook", x.brook(0, 0), 20);
        eq("8 brook", x.brook(0, 1), 7);
        eq("8 brook", x.brook(1, 0), 15);
        eq("8 brook", x.brook(1, 1), 2);
        eq("8 none", x.brook(2, 0), NONE);
        eq("8 none", x.brook(-1, 0), NONE);
        eq("8 others", x.brook(0, 2), NONE);
        eq("8 others", x.brook(0, -1), NONE);
        InkLake y = Lakes.of("lake has 1 black 1 holds 1;brook a gives 999 black 0;brook b gives 0 black 999;");
        eq("8 edges", y.brook(0, 0), 999);
        eq("8 edges", y.brook(1, 1), 999);
    }

    private static void deed() {
        InkLake x = Lakes.of(PLAIN);
        int[][] due = {{0, 30, 5, 4, 0, 0, 99, 30, 1, 0}, {1, 50, 9, 2, 0, 0, 99, 50, 1, 0}};
        for (int what = 0; what < 10; what++) {
            eq("9 deed 0 " + what, x.deed(0, what), due[0][what]);
            eq("9 deed 1 " + what, x.deed(1, what), due[1][what]);
        }
        x.write(0);
        int[] written = {0, 30, 5, 4, 1, 250, 0, 30, 0, 1};
        for (int what = 0; what < 10; what++) {
            eq("9 written " + what, x.deed(0, what), written[what]);
        }
        x.seasons(2);
        eq("9 age", x.deed(0, 6), 2);
        eq("9 age", x.deed(1, 6), 99);
        eq("9 in the SEASON of its term", x.deed(1, 8), 1);
        x.seasons(1);
        eq("9 behind its term", x.deed(1, 8), 0);
        x.seasons(95);
        eq("9 age", x.deed(0, 6), 98);
        x.seasons(1);
        eq("9 age", x.deed(0, 6), 99);
        x.seasons(1);
        eq("9 age at most", x.deed(0, 6), 99);
        eq("9 none", x.deed(2, 0), NONE);
        eq("9 none", x.deed(-1, 0), NONE);
        eq("9 others", x.deed(0, 10), NONE);
        eq("9 others", x.deed(0, -1), NONE);
    }

    private static int draws(String rule) {
        return Lakes.of("lake has 60 black 90 holds 70;village v miles 7;deed d of v needs 40 worth 3 by 9;" + rule).deed(0, 7);
    }

    private static void deedByRules() {
        eq("9 needs without", draws(""), 40);
        eq("9 sum", draws("draws needs+worth*miles;"), 61);
        eq("9 from the left", draws("draws needs-worth-miles;"), 30);
        eq("9 from the left", draws("draws needs/worth/2*4;"), 24);
        eq("9 level, dark, season", draws("draws level+dark+season;"), 210);
        eq("9 below 0", draws("draws worth-miles;"), 0);
        eq("9 above 9999", draws("draws 9999+1;"), 9999);
        eq("9 at 9999", draws("draws 5000+4999;"), 9999);
        eq("9 by 0", draws("draws 7/0+1;"), 1);
        eq("9 whole numbers not above", draws("draws 9+(0-7)/2;"), 5);
        eq("9 whole numbers not above", draws("draws 9+7/(0-2);"), 5);
        eq("9 brackets", draws("draws (2+3)*4;"), 20);
        eq("9 min", draws("draws min(5,4+2)*max(1,3);"), 15);
        eq("9 a million at most", draws("draws 9999*9999/1000;"), 1000);
        eq("9 a million at most", draws("draws (0-9999)*9999/1000+1001;"), 1);
        eq("9 a million at most", draws("draws (9999*9999+1)/1000;"), 1000);
        eq("9 a million at most", draws("draws 1001-((0-9999)*9999-1)/(0-1000);"), 1);
        eq("9 a million exactly", draws("draws (1000*1000-1)/111;"), 9009);
        InkLake x = Lakes.of("lake has 60 black 90 holds 70;village v miles 7;deed d of v needs 40 worth 3 by 9;draws level+1;");
        eq("9 too few BUCKETS", x.deed(0, 8), 0);
        x = Lakes.of("lake has 60 black 90 holds 70;village v miles 7;deed d of v needs 40 worth 3 by 9;draws level;");
        eq("9 BUCKETS enough", x.deed(0, 8), 1);
        String base = "lake has 60 black 90 holds 70;village v miles 7;deed d of v needs 40 worth 3 by 9;may ";
        String[] holds = {"all", "needs=40 and worth=3 and miles=7 and season=0 and level=60 and dark=150", "not needs>40",
            "not not all", "[all or needs<0] and all", "worth<4 or miles>9 and needs>99", "level<61 and not level<60", "2+3*4=14",
            "not [worth=3 and miles=8]", "not worth=4 and all"};
        String[] fails = {"not all", "needs<40", "needs>40", "worth=2", "[worth<4 or miles>9] and needs>99", "dark>150",
            "season>0", "all and not all or not all", "not worth=3 or miles=8", "not [all or all]"};
        for (String test : holds) {
            eq("9 may " + test, Lakes.of(base + test + ";").deed(0, 8), 1);
        }
        for (String test : fails) {
            eq("9 may " + test, Lakes.of(base + test + ";").deed(0, 8), 0);
        }
    }

    private static void miles() {
        InkLake x = Lakes.of("lake has 1 black 1 holds 1;village a miles 0;village b miles 99;");
        eq("10 miles", x.miles(0), 0);
        eq("10 miles", x.miles(1), 99);
        eq("10 none", x.miles(2), NONE);
        eq("10 none", x.miles(-1), NONE);
    }

    private static void kept() {
        InkLake x = Lakes.of(PLAIN);
        eq("11 none", x.kept(0, 0), NONE);
        x.write(1);
        x.seasons(2);
        // 50 + 35 + 35 BUCKETS, 125 + 9 + 9 GRAINS: 119 DARK
        x.write(0);
        int[][] due = {{0, 1, 250, 50}, {2, 0, 119, 30}};
        for (int what = 0; what < 4; what++) {
            eq("11 kept 0 " + what, x.kept(0, what), due[0][what]);
            eq("11 kept 1 " + what, x.kept(1, what), due[1][what]);
        }
        eq("11 none", x.kept(2, 0), NONE);
        eq("11 none", x.kept(-1, 0), NONE);
        eq("11 others", x.kept(0, 4), NONE);
        eq("11 others", x.kept(0, -1), NONE);
        x.undo();
        eq("11 undone", x.kept(1, 0), NONE);
        eq("11 undone", x.kept(0, 1), 1);
        InkLake y = Lakes.of("lake has 9 black 9 holds 9;village v miles 0;deed d of v needs 9 worth 0 by 9;draws 4;fades 40;");
        y.write(0);
        y.seasons(1);
        eq("11 INK then", y.kept(0, 2), 100);
        eq("11 INK now", y.deed(0, 5), 60);
        eq("11 BUCKETS drawn", y.kept(0, 3), 4);
    }

    private static void later() {
        InkLake x = Lakes.of(PLAIN + "fades 100;reads 100;drought 100;");
        x.write(0);
        x.undo();
        int[][] due = {{100, 250, 250, 0}, {135, 259, 191, 0}, {150, 236, 157, 0}, {150, 198, 132, 0}, {150, 167, 111, 0}};
        for (int n = 0; n < due.length; n++) {
            for (int what = 0; what < 4; what++) {
                eq("12 later " + n + " " + what, x.later(n, what), due[n][what]);
            }
        }
        x.write(1);
        x.write(0);
        int[] read = {3, 3, 0, 0};
        for (int n = 0; n < read.length; n++) {
            eq("12 read " + n, x.later(n, 3), read[n]);
        }
        eq("12 at most", x.later(60, 0), 150);
        eq("12 too far", x.later(61, 0), NONE);
        eq("12 below", x.later(-1, 0), NONE);
        eq("12 others", x.later(0, 4), NONE);
        eq("12 others", x.later(0, -1), NONE);
        eq("12 nothing goes by", x.has(4), 0);
        eq("12 without a lake", new InkLake().later(0, 0), NONE);
    }

    private static void laterDries() {
        InkLake x = Lakes.of("lake has 99 black 10 holds 99;brook b gives 0 black 3;dries 7;dries 50;");
        eq("12 dries down", x.later(1, 0), 50);
        eq("12 GRAINS stay", x.later(1, 1), 13);
        eq("12 dries down", x.later(2, 0), 25);
        InkLake y = Lakes.of("lake has 9 black 9990 holds 99;brook b gives 0 black 999;dries 100;");
        eq("12 all dries", y.later(1, 0), 0);
        eq("12 GRAINS at most", y.later(1, 1), 9999);
        eq("12 not DARK", y.later(1, 2), 0);
        // 9990 + 999 GRAINS run over with half of the BUCKETS ahead of the most being told
        InkLake z = Lakes.of("lake has 99 black 9990 holds 99;brook b gives 99 black 999;");
        eq("12 over", z.later(1, 1), 5494);
        // all BROOKS come ahead of what runs over
        InkLake w = Lakes.of("lake has 10 black 100 holds 10;brook a gives 10 black 0;brook b gives 10 black 0;");
        eq("12 over once", w.later(1, 1), 33);
    }

    private static void fade() {
        InkLake x = Lakes.of(PLAIN + "fades 100;reads 50;");
        eq("13 not written", x.fade(0), NONE);
        x.write(0);
        eq("13 fade", x.fade(0), 3);
        x.seasons(2);
        eq("13 fade", x.fade(0), 1);
        eq("13 still", x.deed(0, 9), 1);
        x.seasons(1);
        eq("13 now", x.fade(0), 0);
        eq("13 no more", x.deed(0, 9), 0);
        eq("13 INK", x.deed(0, 5), 0);
        eq("13 none", x.fade(2), NONE);
        eq("13 none", x.fade(-1), NONE);
        x = Lakes.of(PLAIN + "fades 100;reads 50;");
        x.write(1);
        eq("13 the second", x.fade(1), 3);
        eq("13 the first", x.fade(0), NONE);
        eq("9 the second can be read", x.deed(1, 9), 1);
        eq("9 the first can't be", x.deed(0, 9), 0);
        InkLake y = Lakes.of(PLAIN + "fades ink-249;reads 250;");
        y.write(0);
        eq("13 by one", y.fade(0), 1);
        InkLake z = Lakes.of(PLAIN);
        z.write(0);
        eq("13 all along", z.fade(0), NONE);
        InkLake w = Lakes.of(PLAIN + "fades max(0,age-58)*250;");
        w.write(0);
        eq("13 at the last", w.fade(0), 60);
        InkLake v = Lakes.of(PLAIN + "fades max(0,age-59)*250;");
        v.write(0);
        eq("13 behind the last", v.fade(0), NONE);
        InkLake u = Lakes.of(PLAIN + "fades 0-9;reads 0;");
        u.write(0);
        u.seasons(1);
        eq("13 fades no less than 0", u.deed(0, 5), 250);
        eq("13 reads 0", u.fade(0), NONE);
        InkLake t = Lakes.of(PLAIN + "fades season*10+age+needs+worth+miles;");
        t.write(0);
        t.seasons(1);
        eq("13 by what is ahead of the SEASON", t.deed(0, 5), 250 - 37);
        t.seasons(1);
        eq("13 by what is ahead of the SEASON", t.deed(0, 5), 250 - 37 - 48);
    }

    private static void soonest() {
        InkLake x = Lakes.of(PLAIN);
        eq("14 now", x.soonest(0), 0);
        eq("14 none", x.soonest(2), NONE);
        eq("14 none", x.soonest(-1), NONE);
        x.write(0);
        eq("14 written", x.soonest(0), NONE);
        InkLake y = Lakes.of(PLAIN + "may season>1;");
        eq("14 soonest", y.soonest(0), 2);
        eq("14 at the term", y.soonest(1), 2);
        y = Lakes.of(PLAIN + "may season>2;");
        eq("14 behind the term", y.soonest(1), NONE);
        eq("14 soonest", y.soonest(0), 3);
        InkLake z = Lakes.of("lake has 0 black 0 holds 150;brook b gives 2 black 0;village v miles 0;deed d of v needs 120 worth 1 by 99;");
        eq("14 at the last", z.soonest(0), 60);
        z = Lakes.of("lake has 0 black 0 holds 150;brook b gives 2 black 0;village v miles 0;deed d of v needs 121 worth 1 by 99;");
        eq("14 behind the last", z.soonest(0), NONE);
        z.seasons(1);
        eq("14 at the last", z.soonest(0), 60);
    }

    private static void dip() {
        String base = "lake has 100 black 0 holds 150;brook b gives 0 black 10;village v miles 0;deed d of v needs 5 worth 1 by 3;";
        InkLake x = Lakes.of(base);
        eq("15 dip", x.dip(0, 0), 3);
        eq("15 dip", x.dip(0, 1), 30);
        x.seasons(1);
        eq("15 dip", x.dip(0, 0), 2);
        eq("15 dip", x.dip(0, 1), 30);
        eq("15 others", x.dip(0, 2), NONE);
        eq("15 others", x.dip(0, -1), NONE);
        eq("15 none", x.dip(1, 0), NONE);
        eq("15 none", x.dip(-1, 0), NONE);
        x.seasons(3);
        eq("15 never", x.dip(0, 0), NONE);
        eq("15 never", x.dip(0, 1), NONE);
        x = Lakes.of(base + "may dark<25;");
        eq("15 may", x.dip(0, 0), 2);
        InkLake y = Lakes.of("lake has 100 black 20 holds 150;village v miles 0;deed d of v needs 5 worth 1 by 99;");
        eq("15 the soonest", y.dip(0, 0), 0);
        eq("15 the soonest", y.dip(0, 1), 20);
        y.write(0);
        eq("15 written", y.dip(0, 0), NONE);
        InkLake z = Lakes.of("lake has 0 black 0 holds 1;village v miles 0;deed d of v needs 1 worth 1 by 99;draws 0;");
        eq("15 not black", z.dip(0, 0), 0);
        eq("15 not black", z.dip(0, 1), 0);
        InkLake w = Lakes.of("lake has 100 black 0 holds 150;brook b gives 0 black 1;village v miles 0;deed d of v needs 5 worth 1 by 99;");
        eq("15 the last", w.dip(0, 0), 60);
    }

    private static void missed() {
        InkLake x = Lakes.of(PLAIN);
        eq("16 missed", x.missed(), 0);
        x.seasons(2);
        eq("16 missed in its SEASON", x.missed(), 0);
        x.seasons(1);
        eq("16 missed", x.missed(), 2);
        x.write(0);
        x.seasons(2);
        eq("16 written", x.missed(), 2);
        x.undo();
        x.undo();
        x.seasons(2);
        eq("16 both", x.missed(), 3);
    }

    private static String shareLake(int has, String deeds) {
        return "lake has " + has + " black 0 holds 99;village v miles 0;" + deeds;
    }

    private static void share() {
        InkLake x = Lakes.of(PLAIN);
        eq("17 bits", x.share(0), 3);
        eq("17 worth", x.share(1), 14);
        eq("17 drawn", x.share(2), 80);
        eq("17 others", x.share(3), NONE);
        eq("17 others", x.share(-1), NONE);
        eq("17 nothing is written", x.has(8), 0);
        eq("17 without a lake", new InkLake().share(0), NONE);
        x.write(1);
        eq("17 written", x.share(0), 1);
        x.seasons(5);
        eq("17 none", x.share(0), 0);
        eq("17 none", x.share(1), 0);
        eq("17 none", x.share(2), 0);
        String three = "deed a of v needs 6 worth 3 by 9;deed b of v needs 5 worth 3 by 9;deed c of v needs 5 worth 3 by 9;";
        x = Lakes.of(shareLake(10, three));
        eq("17 worth most", x.share(0), 6);
        eq("17 worth most", x.share(1), 6);
        x = Lakes.of(shareLake(11, three));
        eq("17 fewest BUCKETS", x.share(0), 6);
        eq("17 fewest BUCKETS", x.share(2), 10);
        x = Lakes.of(shareLake(9, three));
        eq("17 least bits", x.share(0), 2);
        x = Lakes.of(shareLake(9, "deed a of v needs 6 worth 0 by 9;"));
        eq("17 worth nothing", x.share(0), 0);
        x = Lakes.of(shareLake(9, "deed a of v needs 6 worth 0 by 9;draws 0;"));
        eq("17 least bits", x.share(0), 0);
        // one that two ahead of it would drown: may by what is left then
        x = Lakes.of(shareLake(20, three + "may level>10;"));
        eq("17 each CAN BE then", x.share(0), 6);
        x = Lakes.of(shareLake(20, three + "may level>9 and not needs=6 or needs=6 and level=20;"));
        eq("17 each CAN BE then", x.share(1), 6);
        eq("17 each CAN BE then", x.share(0), 6);
        x = Lakes.of(shareLake(20, "deed a of v needs 6 worth 1 by 9;deed b of v needs 5 worth 3 by 9;may level<20 or needs=6;"));
        eq("17 one opens another", x.share(0), 3);
        x = Lakes.of(shareLake(20, "deed b of v needs 5 worth 3 by 9;deed a of v needs 6 worth 1 by 9;may level<20 or needs=6;"));
        eq("17 by numbers", x.share(0), 2);
        x = Lakes.of("lake has 10 black 10 holds 10;village v miles 0;deed a of v needs 5 worth 1 by 9;deed b of v needs 5 worth 1 by 9;draws level/2;");
        eq("17 draws then", x.share(2), 7);
        // a alone is worth 2; without a the lake is as DARK as at first, so b and c can be, worth 3
        x = Lakes.of("lake has 50 black 101 holds 50;village v miles 0;deed a of v needs 49 worth 2 by 9;deed b of v needs 1 worth 2 by 9;"
                + "deed c of v needs 1 worth 1 by 9;may needs=49 or dark<210 and dark>201;");
        eq("17 GRAINS as they are then", x.share(0), 6);
        eq("17 GRAINS as they are then", x.share(1), 3);
    }

    private static void all() {
        InkLake x = Lakes.of(PLAIN);
        eq("18 now", x.all(3), 0);
        eq("18 none of them", x.all(0), 0);
        eq("18 none such", x.all(4), NONE);
        eq("18 none such", x.all(-1), NONE);
        eq("18 none such", x.all(Integer.MIN_VALUE), NONE);
        eq("18 without a lake", new InkLake().all(0), NONE);
        x.write(0);
        eq("18 written", x.all(1), NONE);
        eq("18 written", x.all(3), NONE);
        eq("18 the other", x.all(2), 0);
        eq("18 nothing is done", x.has(8), 1);
        x.seasons(3);
        eq("18 never", x.all(2), NONE);
        String slow = "lake has 5 black 0 holds 150;brook c gives 5 black 0;village v miles 0;deed a of v needs 20 worth 0 by 99;"
                + "deed b of v needs 10 worth 0 by 99;";
        x = Lakes.of(slow);
        // b takes 10 of 10 behind one SEASON, then a needs four more
        eq("18 in a row", x.all(3), 5);
        eq("18 in a row", x.all(1), 3);
        eq("18 in a row", x.all(2), 1);
        x = Lakes.of("lake has 1 black 0 holds 150;brook b gives 1 black 0;village v miles 0;deed a of v needs 61 worth 0 by 99;");
        eq("18 at the last", x.all(1), 60);
        x = Lakes.of("lake has 1 black 0 holds 150;brook b gives 1 black 0;village v miles 0;deed a of v needs 62 worth 0 by 99;");
        eq("18 behind the last", x.all(1), NONE);
        x = Lakes.of("lake has 20 black 0 holds 150;village v miles 0;deed a of v needs 5 worth 0 by 99;deed b of v needs 6 worth 0 by 99;"
                + "may needs=6 or level<20;");
        eq("18 once through by numbers", x.all(3), 1);
    }

    private static void thinned() {
        InkLake x = Lakes.of(PLAIN);
        // 135 without more; by 10 of one 145, by both 155, of which 5 run over
        eq("19 none of them", x.thinned(10, 135, NONE, 0), 1);
        eq("19 none of them", x.thinned(10, 135, NONE, 1), 0);
        eq("19 none of them", x.thinned(10, 135, NONE, 2), 0);
        eq("19 one", x.thinned(10, 145, NONE, 0), 2);
        eq("19 one", x.thinned(10, 145, NONE, 1), 0);
        eq("19 one", x.thinned(10, 145, NONE, 2), 3);
        eq("19 both", x.thinned(10, 150, NONE, 0), 1);
        eq("19 both", x.thinned(10, 150, NONE, 1), 3);
        eq("19 dark", x.thinned(10, 135, 191, 0), 1);
        eq("19 dark", x.thinned(10, 135, 190, 0), 0);
        eq("19 dark", x.thinned(10, 150, 166, 0), 1);
        // 16 of one run over by one, of both by 17: 257 and 232 GRAINS
        eq("19 full", x.thinned(16, 150, NONE, 0), 3);
        eq("19 full", x.thinned(16, 150, 171, 0), 2);
        eq("19 full", x.thinned(16, 150, 154, 2), 3);
        eq("19 full", x.thinned(16, 150, 154, 1), 3);
        eq("19 no sets", x.thinned(16, 149, NONE, 0), 0);
        eq("19 more than it holds", x.thinned(1, 151, NONE, 0), 0);
        eq("19 most BUCKETS", x.thinned(1, 9999, NONE, 0), 0);
        eq("19 most dark", x.thinned(1, 135, 9999, 0), 0);
        eq("19 no BUCKETS", x.thinned(1, 0, 0, 0), 0);
        eq("19 no sets", x.thinned(16, 149, NONE, 1), 0);
        eq("19 no sets", x.thinned(16, 149, NONE, 2), 0);
        eq("19 more", x.thinned(0, 135, NONE, 0), NONE);
        eq("19 more", x.thinned(1000, 135, NONE, 0), NONE);
        eq("19 more", x.thinned(999, 150, NONE, 0), 3);
        eq("19 more", x.thinned(-5, 135, NONE, 0), NONE);
        eq("19 BUCKETS", x.thinned(1, -1, NONE, 0), NONE);
        eq("19 BUCKETS", x.thinned(1, 10000, NONE, 0), NONE);
        eq("19 dark", x.thinned(1, 135, -2, 0), NONE);
        eq("19 dark", x.thinned(1, 135, 10000, 0), NONE);
        eq("19 others", x.thinned(1, 135, NONE, 3), NONE);
        eq("19 others", x.thinned(1, 135, NONE, -1), NONE);
        eq("19 without a lake", new InkLake().thinned(1, 0, NONE, 0), NONE);
        eq("19 without BROOKS", Lakes.of("lake has 3 black 0 holds 9;").thinned(1, 3, 0, 0), 1);
        eq("19 all stays", x.has(5), 100);
        InkLake y = Lakes.of("lake has 3 black 0 holds 99;brook a gives 0 black 0;brook b gives 0 black 0;brook c gives 0 black 0;");
        eq("19 two of three", y.thinned(5, 13, NONE, 0), 3);
        eq("19 two of three", y.thinned(5, 13, NONE, 1), 0);
        eq("19 two of three", y.thinned(5, 13, NONE, 2), 7);
    }

    private static void outflows() {
        InkLake x = Lakes.of(PLAIN);
        eq("20 none goes", Lakes.outflows(x, 135), 1);
        eq("20 none goes", x.outflow(1), 0);
        eq("20 some", Lakes.outflows(x, 125, 150), 1);
        eq("20 some", x.outflow(0), 10);
        eq("20 none", Lakes.outflows(x, 125, 149), 0);
        eq("20 never below 0", Lakes.outflows(x, 35), 900);
        eq("20 never below 0", x.outflow(0), 100);
        eq("20 never below 0", x.outflow(1), 999);
        eq("20 ten rows", Lakes.outflows(x, 35, 35, 35, 35, 35, 35, 35, 35, 35, 35), 900);
        eq("20 eleven rows", Lakes.outflows(x, 35, 35, 35, 35, 35, 35, 35, 35, 35, 35, 35), NONE);
        eq("20 no row", Lakes.outflows(x), NONE);
        Lakes.put(x, 0, 35, 0);
        eq("20 half a row", x.outflows(), NONE);
        eq("20 refused", x.status(1), 3);
        Lakes.put(x, 0, 35);
        x.outflows();
        eq("20 the tape goes", x.feed(0, 0, 0, 0, 0), 20);
        eq("20 twenty bytes of 0", x.outflows(), 0);
        eq("20 far levels", Lakes.outflows(x, 65535), 0);
        eq("20 all stays", x.has(5), 100);
        eq("20 all stays", x.has(4), 0);
        // ahead of the BROOKS, the GRAINS stay: 100 - 90 + 35
        eq("20 ahead of the BROOKS", Lakes.outflows(x, 45), 1);
        eq("20 ahead of the BROOKS", x.outflow(0), 90);
        InkLake y = Lakes.of("lake has 10 black 0 holds 10;brook b gives 5 black 0;");
        eq("20 runs over", Lakes.outflows(y, 10, 10), 6);
        eq("20 runs over", y.outflow(1), 5);
        InkLake z = new InkLake();
        eq("20 without a lake", Lakes.outflows(z, 0), NONE);
        eq("20 without a lake", z.status(1), 1);
        eq("20 without a lake the tape goes", z.feed(0, 0, 0, 0, 0), 20);
    }

    private static void outflow() {
        InkLake x = Lakes.of(PLAIN);
        eq("21 without", x.outflow(0), NONE);
        Lakes.outflows(x, 35);
        eq("21 least", x.outflow(0), 100);
        eq("21 greatest", x.outflow(1), 999);
        eq("21 others", x.outflow(2), NONE);
        eq("21 others", x.outflow(-1), NONE);
        Lakes.put(x, 1);
        x.outflows();
        eq("21 a refused one counts not", x.outflow(0), 100);
        x.seasons(1);
        x.undo();
        Lakes.on(x, Lakes.image(0, 1, 1, 0, 0, 0, 99, 0, 0, 0, 99));
        eq("21 of this SHORE", x.outflow(1), 999);
        Lakes.outflows(x, 9999);
        eq("21 none found", x.outflow(0), NONE);
        eq("21 none found", x.outflow(1), NONE);
    }

    private static void brief() {
        InkLake x = Lakes.of("lake has 1 black 1 holds 1;brook law gives 0 black 0;village v miles 0;"
                + "deed will of v needs 1 worth 0 by 0;deed wills of v needs 1 worth 0 by 0;deed w of v needs 1 worth 0 by 0;"
                + "deed wilson of v needs 1 worth 0 by 0;deed laws of v needs 1 worth 0 by 0;deed lent of v needs 1 worth 0 by 0;");
        int[] due = {4, 5, 1, 4, 2, 2};
        for (int deed = 0; deed < due.length; deed++) {
            eq("22 brief " + deed, x.brief(deed), due[deed]);
        }
        eq("22 none", x.brief(6), NONE);
        eq("22 none", x.brief(-1), NONE);
        InkLake y = Lakes.of("lake has 1 black 1 holds 1;village v miles 0;deed abc of v needs 1 worth 0 by 0;");
        eq("22 alone", y.brief(0), 1);
        InkLake z = Lakes.of("lake has 1 black 1 holds 1;village v miles 0;deed ax of v needs 1 worth 0 by 0;deed bx of v needs 1 worth 0 by 0;"
                + "deed cdefgh of v needs 1 worth 0 by 0;deed cdefgi of v needs 1 worth 0 by 0;deed cdefg of v needs 1 worth 0 by 0;");
        int[] short6 = {1, 1, 6, 6, 5};
        for (int deed = 0; deed < short6.length; deed++) {
            eq("22 six letters " + deed, z.brief(deed), short6[deed]);
        }
    }

    private static void write() {
        InkLake x = Lakes.of(PLAIN);
        eq("23 write", x.write(0), 250);
        eq("23 BUCKETS", x.has(5), 70);
        eq("23 GRAINS", x.has(6), 175);
        eq("23 twice", x.write(0), NONE);
        eq("23 none", x.write(2), NONE);
        eq("23 none", x.write(-1), NONE);
        eq("23 refused", x.status(2), 3);
        eq("23 write", x.write(1), 250);
        eq("23 BUCKETS", x.has(5), 20);
        eq("23 GRAINS", x.has(6), 50);
        InkLake y = Lakes.of("lake has 7 black 10 holds 9;village v miles 0;deed a of v needs 3 worth 0 by 1;deed b of v needs 9 worth 0 by 1;");
        eq("23 down", y.write(0), 142);
        eq("23 GRAINS down", y.has(6), 6);
        eq("23 too much", y.write(1), NONE);
        y.seasons(2);
        eq("23 too late", y.write(1), NONE);
        InkLake z = Lakes.of("lake has 0 black 10 holds 9;village v miles 0;deed a of v needs 3 worth 0 by 1;draws 0;");
        eq("23 nothing drawn", z.write(0), 0);
        eq("23 nothing drawn", z.has(6), 10);
        eq("23 nothing drawn", z.has(8), 1);
        InkLake one = Lakes.of("lake has 1 black 10 holds 9;village v miles 0;deed a of v needs 1 worth 0 by 1;");
        eq("23 one of one", one.write(0), 1000);
        eq("23 one of one", one.has(6), 0);
        InkLake w = Lakes.of(PLAIN + "may needs>30;");
        eq("23 may not", w.write(0), NONE);
        eq("23 may", w.write(1), 250);
        InkLake v = Lakes.of("lake has 9 black 10 holds 9;village v miles 0;deed a of v needs 9 worth 0 by 1;");
        eq("23 to the last drop", v.write(0), 111);
        eq("23 to the last drop", v.has(5) + v.has(6), 0);
    }

    private static void pour() {
        InkLake x = Lakes.of(PLAIN);
        eq("24 pour", x.pour(1), 251);
        eq("24 pour", x.pour(999), 1250);
        eq("24 too few", x.pour(0), NONE);
        eq("24 too many", x.pour(1000), NONE);
        eq("24 too few", x.pour(-7), NONE);
        eq("24 refused", x.status(2), 3);
        eq("24 stays", x.has(6), 1250);
        eq("24 without a lake", new InkLake().pour(1), NONE);
        InkLake y = Lakes.of("lake has 0 black 9000 holds 9;");
        eq("24 brim", y.pour(999), 9999);
        eq("24 beyond", y.pour(1), NONE);
        InkLake z = Lakes.of("lake has 0 black 9001 holds 9;");
        eq("24 beyond", z.pour(999), NONE);
        eq("24 beyond", z.has(11), 0);
        eq("24 brim", z.pour(998), 9999);
        InkLake none = new InkLake();
        none.pour(5);
        eq("24 refused", none.status(2), 1);
    }

    private static void seasons() {
        InkLake x = Lakes.of(PLAIN + "drought 100;");
        eq("25 one", x.seasons(1), 0);
        eq("25 two", x.seasons(2), 20 + 35);
        eq("25 SEASON", x.has(4), 3);
        eq("25 BUCKETS", x.has(5), 150);
        eq("25 GRAINS", x.has(6), 198);
        eq("25 one ACT", x.has(11), 2);
        eq("25 none", x.seasons(0), NONE);
        eq("25 below", x.seasons(-1), NONE);
        eq("25 too many", x.seasons(101), NONE);
        eq("25 refused", x.status(3), 3);
        eq("25 most", x.seasons(100), 3500);
        InkLake none = new InkLake();
        eq("25 without a lake", none.seasons(1), NONE);
        eq("25 without a lake", none.status(3), 1);
    }

    private static void years() {
        InkLake x = Lakes.of(PLAIN + "drought 20;");
        // the first DRAWS of seed 1 by 100: 18, 99, 26, 80, 16, 14
        eq("26 one", x.years(1), 1);
        eq("26 BUCKETS", x.has(5), 115);
        eq("26 GRAINS", x.has(6), 252);
        eq("26 two", x.years(2), 2);
        eq("26 BUCKETS", x.has(5), 150);
        eq("26 GRAINS", x.has(6), 261);
        eq("26 SEASON", x.has(4), 3);
        eq("26 one ACT", x.has(11), 2);
        eq("26 none", x.years(0), NONE);
        eq("26 below", x.years(-1), NONE);
        eq("26 too many", x.years(101), NONE);
        eq("26 refused", x.status(3), 3);
        x.seed(1);
        x.undo();
        eq("26 by the seed", x.years(1), 1);
        x = Lakes.of(PLAIN + "drought 18;");
        eq("26 not at it", x.years(1), 0);
        x = Lakes.of(PLAIN + "drought 100;");
        eq("26 always", x.years(100), 200);
        eq("26 always", x.has(5), 100);
        x = Lakes.of(PLAIN);
        eq("26 never", x.years(100), 0);
        eq("26 never", x.has(4), 100);
        // drought 0 draws, too: 18, 99 are gone
        x = Lakes.of(PLAIN);
        x.years(1);
        Lakes.shore(x, PLAIN + "drought 27;");
        eq("26 DRAWS always", x.years(1), 1);
        InkLake none = new InkLake();
        eq("26 without a lake", none.years(1), NONE);
        eq("26 without a lake", none.status(3), 1);
        Lakes.shore(none, PLAIN + "drought 19;");
        eq("26 a refused one draws nothing", none.years(1), 1);
    }

    private static void undo() {
        InkLake x = Lakes.of(PLAIN + "fades 10;drought 50;");
        Check.no("27 none", x.undo());
        eq("27 refused", x.status(4), 1);
        x.write(0);
        x.pour(9);
        x.seasons(3);
        x.years(2);
        eq("27 ACTS", x.has(11), 4);
        Check.yes("27 years", x.undo());
        eq("27 SEASON", x.has(4), 3);
        eq("27 INK", x.deed(0, 5), 220);
        Check.yes("27 seasons", x.undo());
        eq("27 SEASON", x.has(4), 0);
        eq("27 INK", x.deed(0, 5), 250);
        eq("27 age", x.deed(0, 6), 0);
        eq("27 GRAINS", x.has(6), 184);
        Check.yes("27 pour", x.undo());
        eq("27 GRAINS", x.has(6), 175);
        Check.yes("27 write", x.undo());
        eq("27 GRAINS", x.has(6), 250);
        eq("27 BUCKETS", x.has(5), 100);
        eq("27 not written", x.has(8), 0);
        eq("27 INK", x.deed(0, 5), 0);
        eq("27 age", x.deed(0, 6), 99);
        eq("27 not KEPT", x.has(10), 0);
        Check.no("27 no more", x.undo());
        eq("27 refused", x.status(4), 2);
        for (int k = 1; k <= 23; k++) {
            x.pour(1);
            eq("27 ACTS", x.has(11), Math.min(20, k));
        }
        for (int k = 1; k <= 20; k++) {
            Check.yes("27 undo", x.undo());
            eq("27 GRAINS", x.has(6), 273 - k);
        }
        Check.no("27 the 21st", x.undo());
        x.pour(0);
        eq("27 a refused ACT is none", x.has(11), 0);
        // the seed stays: four DRAWS are gone, and the next two are 16 and 14
        x = Lakes.of(PLAIN + "drought 20;");
        x.years(2);
        x.undo();
        eq("27 the seed stays", x.years(1), 2);
    }

    private static void seed() {
        InkLake x = new InkLake();
        Check.no("28 below", x.seed(-1));
        Check.no("28 below", x.seed(Integer.MIN_VALUE));
        eq("28 refused", x.status(5), 2);
        Check.yes("28 nought", x.seed(0));
        Lakes.shore(x, PLAIN + "drought 93;");
        // 0 becomes 12345: 192, then 1406932606: 21983321
        eq("28 from 0", x.years(1), 2);
        Check.yes("28 most", x.seed(Integer.MAX_VALUE));
        x.undo();
        long s = Integer.MAX_VALUE;
        int due = 0;
        for (int k = 0; k < 2; k++) {
            s = (1103515245L * s + 12345L) % (1L << 31);
            due += s / 64 % 100 < 93 ? 1 : 0;
        }
        eq("28 from the most", x.years(1), due);
        x.seed(1);
        Check.no("28 below", x.seed(-3));
        Lakes.shore(x, PLAIN + "drought 19;");
        eq("28 a refused one changes nothing", x.years(1), 1);
    }

    private static void ask() {
        InkLake x = Lakes.of(PLAIN + "draws needs+miles;");
        eq("29 first", Lakes.ask(x, "first all"), 0);
        eq("29 last", Lakes.ask(x, "last all"), 1);
        eq("29 often", Lakes.ask(x, "often all"), 2);
        eq("29 first of none", Lakes.ask(x, "first not all"), NONE);
        eq("29 last of none", Lakes.ask(x, "last needs>999"), NONE);
        eq("29 often none", Lakes.ask(x, "often needs=1"), 0);
        eq("29 first", Lakes.ask(x, "first needs>30"), 1);
        eq("29 last", Lakes.ask(x, "last needs<50"), 0);
        eq("29 total", Lakes.ask(x, "total number+needs+worth+miles+term+season"), 1 + 80 + 14 + 12 + 6);
        eq("29 total draws", Lakes.ask(x, "total draws"), 32 + 60);
        eq("29 ink", Lakes.ask(x, "total ink"), 0);
        eq("29 age", Lakes.ask(x, "least age"), 99);
        eq("29 most", Lakes.ask(x, "most needs*worth"), 450);
        eq("29 least", Lakes.ask(x, "least needs*worth"), 150);
        eq("29 below 0", Lakes.ask(x, "most 0-needs"), -30);
        eq("29 below 0", Lakes.ask(x, "least 0-needs"), -50);
        eq("29 below 0", Lakes.ask(x, "total 0-needs"), -80);
        eq("29 all together above a million", Lakes.ask(x, "total 9999*9999"), 2000000);
        eq("29 all together", Lakes.ask(x, "total 0-9999*9999-5"), -2000000);
        eq("29 by", Lakes.ask(x, "first by 1=1"), 1);
        eq("29 by", Lakes.ask(x, "total by number"), 2);
        eq("29 by", Lakes.ask(x, "total by(0-1)"), 0);
        eq("29 by", Lakes.ask(x, "total by 2"), 0);
        eq("29 by its PART alone", Lakes.ask(x, "total by 0+5"), 11);
        eq("29 by by", Lakes.ask(x, "first by by 0=1"), NONE);
        eq("29 by by", Lakes.ask(x, "total by by by 1"), 1);
        eq("29 min, max", Lakes.ask(x, "total min(needs,40)*max(worth,6)"), 30 * 6 + 40 * 9);
        x.write(1);
        x.seasons(1);
        eq("29 ink", Lakes.ask(x, "total ink"), 250);
        eq("29 age", Lakes.ask(x, "least age"), 1);
        eq("29 season", Lakes.ask(x, "most season"), 1);
        eq("29 which are written", Lakes.ask(x, "last ink>0 and age<99"), 1);
        eq("29 the tape goes", x.feed(0, 0, 0, 0, 0), 20);
        InkLake y = Lakes.of("lake has 1 black 1 holds 1;");
        eq("29 without DEEDS", Lakes.ask(y, "first all"), NONE);
        eq("29 without DEEDS", Lakes.ask(y, "last all"), NONE);
        eq("29 without DEEDS", Lakes.ask(y, "often all"), 0);
        eq("29 without DEEDS", Lakes.ask(y, "total 5"), 0);
        eq("29 without DEEDS", Lakes.ask(y, "most 5"), 0);
        eq("29 without DEEDS", Lakes.ask(y, "least 5"), 0);
        eq("29 without a lake", Lakes.ask(new InkLake(), "often all"), InkLake.NOTHING);
    }

    private static void askFault(String text, int fault, int place) {
        InkLake x = Lakes.of(PLAIN);
        eq("29 " + text, Lakes.ask(x, text), InkLake.NOTHING);
        eq("29 fault: " + text, x.fault(0), fault);
        eq("29 place: " + text, x.fault(1), place);
    }

    private static void askFaults() {
        askFault("", 1, 0);
        askFault("  ", 1, 2);
        askFault("number all", 1, 0);
        askFault("firsts all", 1, 0);
        askFault("often", 1, 5);
        askFault("often alls", 1, 6);
        askFault("often all;", 1, 9);
        askFault("often all all", 1, 10);
        askFault("total level", 1, 6);
        askFault("total dark", 1, 6);
        askFault("total needs>1", 1, 11);
        askFault("often needs", 1, 11);
        askFault("total by", 1, 8);
        askFault("total by2", 1, 8);
        askFault("total 12345", 1, 10);
        askFault("total 5needs", 1, 7);
        askFault("total min(1)", 1, 11);
        askFault("total min 1", 1, 10);
        askFault("total max(1,2", 1, 13);
        askFault("total by by by by by by by 1", 4, 24);
        askFault("total ((((((( 1", 4, 12);
        askFault("often not not not[[[[all", 4, 20);
        askFault("total by(by(by(1)))+by(by(by(by 1)))", 4, 29);
        eq("29 six at once", Lakes.ask(Lakes.of(PLAIN), "total by by by by by by 1"), 2);
        eq("29 by ends", Lakes.ask(Lakes.of(PLAIN), "total by 1+by 1+by 1+by 1+by 1+by 1+by 1"), 7);
        eq("29 not ends", Lakes.ask(Lakes.of(PLAIN), "often not not all and not not all and not not all and not all"), 0);
    }

    private static void image() {
        InkLake x = new InkLake();
        eq("30 without a lake", x.image(), 7);
        x = Lakes.of("lake has 9 black 9 holds 9;");
        eq("30 without DEEDS", x.image(), 7);
        x = Lakes.of(PLAIN);
        x.write(1);
        x.seasons(2);
        eq("30 bytes", x.image(), 15);
        int[] due = Lakes.image(2, 120, 143, 0, 0, 0, 99, 1, 0, 250, 2);
        for (int k = 0; k < due.length; k++) {
            eq("30 byte " + k, x.octet(k), due[k]);
        }
        InkLake y = Lakes.of("lake has 1000 black 9999 holds 1000;village v miles 0;deed d of v needs 1 worth 0 by 0;");
        y.write(0);
        y.seasons(100);
        y.seasons(100);
        y.seasons(100);
        y.image();
        due = Lakes.image(300, 999, 9999 - 9, 1, 3, 231, 99);
        for (int k = 0; k < due.length; k++) {
            eq("30 two bytes " + k, y.octet(k), due[k]);
        }
    }

    private static void octet() {
        InkLake x = Lakes.of(PLAIN);
        eq("31 without", x.octet(0), NONE);
        x.image();
        eq("31 first", x.octet(3), 100);
        eq("31 behind", x.octet(15), NONE);
        eq("31 below", x.octet(-1), NONE);
        x.seasons(1);
        eq("31 the latest", x.octet(3), 100);
        x.image();
        eq("31 the latest", x.octet(3), 135);
        Lakes.shore(x, "lake has 9 black 9 holds 9;");
        eq("31 stays", x.octet(14) >= 0 ? 1 : 0, 1);
        x.image();
        eq("31 shorter", x.octet(7), NONE);
        eq("31 shorter", x.octet(3), 9);
    }

    private static void on() {
        InkLake x = Lakes.of(PLAIN);
        x.write(0);
        x.write(1);
        Check.yes("32 on", Lakes.on(x, Lakes.image(7, 33, 44, 0, 0, 0, 99, 1, 1, 4, 5)));
        int[] due = {2, 2, 2, 150, 7, 33, 44, 133, 1, 1, 0, 0};
        for (int what = 0; what < due.length; what++) {
            eq("32 has " + what, x.has(what), due[what]);
        }
        eq("32 INK", x.deed(1, 5), 260);
        eq("32 age", x.deed(1, 6), 5);
        eq("32 INK", x.deed(0, 5), 0);
        eq("32 age", x.deed(0, 6), 99);
        eq("32 not written", x.deed(0, 4), 0);
        Check.no("32 nothing to undo", x.undo());
        eq("32 nothing KEPT", x.kept(0, 0), NONE);
        eq("32 the tape goes", x.feed(0, 0, 0, 0, 0), 20);
        x.end(0);
        Check.yes("32 most", Lakes.on(x, Lakes.image(999, 150, 9999, 1, 39, 15, 99, 1, 0, 0, 0)));
        eq("32 most", x.has(4), 999);
        eq("32 most", x.has(7), 6666);
        eq("32 most", x.deed(0, 5), 9999);
        Check.yes("32 least", Lakes.on(x, Lakes.image(0, 0, 0, 0, 0, 0, 99, 0, 0, 0, 99)));
        eq("32 least", x.has(8), 0);
        x.image();
        x.seasons(1);
        int[] back = new int[15];
        for (int k = 0; k < 15; k++) {
            back[k] = x.octet(k);
        }
        Check.yes("32 its own", Lakes.on(x, back));
        eq("32 its own", x.has(4), 0);
    }

    private static void onRefused() {
        InkLake x = Lakes.of(PLAIN);
        x.write(0);
        int[][] wrong = {
            Lakes.image(1000, 0, 0, 0, 0, 0, 99, 0, 0, 0, 99), Lakes.image(0, 151, 0, 0, 0, 0, 99, 0, 0, 0, 99),
            Lakes.image(0, 0, 10000, 0, 0, 0, 99, 0, 0, 0, 99), Lakes.image(0, 0, 0, 2, 0, 0, 99, 0, 0, 0, 99),
            Lakes.image(0, 0, 0, 0, 0, 1, 99, 0, 0, 0, 99), Lakes.image(0, 0, 0, 0, 0, 0, 98, 0, 0, 0, 99),
            Lakes.image(0, 0, 0, 0, 1, 0, 99, 0, 0, 0, 99), Lakes.image(0, 0, 0, 1, 39, 16, 0, 0, 0, 0, 99),
            Lakes.image(0, 0, 0, 1, 0, 0, 100, 0, 0, 0, 99), Lakes.image(0, 0, 0, 0, 0, 0, 99),
            Lakes.image(0, 0, 0, 0, 0, 0, 99, 0, 0, 0, 99, 0, 0, 0, 99), Lakes.image(0, 0, 0), {},
            Lakes.image(0, 0, 0, 0, 0, 0, 99, 1, 0, 0, 100)};
        for (int k = 0; k < wrong.length; k++) {
            Check.no("32 wrong " + k, Lakes.on(x, wrong[k]));
            eq("32 refused", x.status(5), k + 1);
            eq("32 the tape goes", x.feed(0, 0, 0, 0, 0), 20);
            x.end(0);
        }
        int[] good = Lakes.image(3, 4, 5, 0, 0, 0, 99, 0, 0, 0, 99);
        good[14]++;
        Check.no("32 last byte", Lakes.on(x, good));
        good[14] += 250;
        Check.no("32 last byte by 251", good[14] < 256 && Lakes.on(x, good));
        eq("32 all stays", x.has(8), 1);
        eq("32 all stays", x.has(10), 1);
        eq("32 all stays", x.has(11), 1);
        eq("32 all stays", x.has(4), 0);
        InkLake none = new InkLake();
        Check.no("32 without a lake", Lakes.on(none, Lakes.image(0, 0, 0)));
        eq("32 without a lake", none.status(5), 1);
        eq("32 without a lake the tape goes", none.feed(0, 0, 0, 0, 0), 20);
    }

    private static void status() {
        InkLake x = new InkLake();
        x.end(1);
        x.end(-1);
        x.shore();
        x.outflows();
        x.outflows();
        x.write(0);
        x.pour(1);
        x.write(1);
        x.pour(2);
        x.seasons(1);
        x.years(1);
        x.years(2);
        x.years(3);
        x.years(4);
        for (int k = 0; k < 6; k++) {
            x.undo();
        }
        x.seed(-1);
        x.on();
        for (int k = 0; k < 5; k++) {
            x.seed(-1);
        }
        int[] due = {2, 3, 4, 5, 6, 7};
        for (int what = 0; what < 6; what++) {
            eq("33 status " + what, x.status(what), due[what]);
        }
        eq("33 others", x.status(6), NONE);
        eq("33 others", x.status(-1), NONE);
        Lakes.ask(x, "nonsense");
        x.octet(5);
        x.later(-1, 0);
        for (int what = 0; what < 6; what++) {
            eq("33 others are not counted " + what, x.status(what), due[what]);
        }
    }

    private static void lastSeason() {
        InkLake x = Lakes.of(PLAIN);
        Lakes.on(x, Lakes.image(997, 100, 250, 1, 0, 9, 0, 0, 0, 0, 99));
        eq("12 not beyond 999", x.later(2, 0), 150);
        eq("12 not beyond 999", x.later(3, 0), NONE);
        eq("25 not beyond 999", x.seasons(3), NONE);
        eq("26 not beyond 999", x.years(3), NONE);
        eq("25 not beyond 999", x.status(3), 2);
        eq("25 not beyond 999", x.has(11), 0);
        eq("20 to 999", Lakes.outflows(x, 135, 150), 1);
        eq("20 beyond 999", Lakes.outflows(x, 135, 150, 150), NONE);
        eq("19 to 999", x.thinned(1, 135, NONE, 0), 1);
        eq("26 to 998", x.years(1), 0);
        eq("25 to 999", x.seasons(1), 20);
        eq("25 at 999", x.has(4), 999);
        eq("25 at 999", x.seasons(1), NONE);
        eq("26 at 999", x.years(1), NONE);
        eq("12 at 999", x.later(0, 0), 150);
        eq("12 at 999", x.later(1, 0), NONE);
        eq("19 at 999", x.thinned(1, 150, NONE, 0), NONE);
        eq("20 at 999", Lakes.outflows(x, 150), NONE);
        eq("18 at 999", x.all(0), 0);
        eq("18 at 999", x.all(2), NONE);
        eq("13 at 999", x.fade(0), NONE);
        x = Lakes.of(PLAIN + "fades 5;");
        Lakes.on(x, Lakes.image(997, 100, 250, 1, 0, 9, 0, 0, 0, 0, 99));
        eq("13 to 999", x.fade(0), 2);
        Lakes.on(x, Lakes.image(998, 100, 250, 1, 0, 9, 0, 0, 0, 0, 99));
        eq("13 beyond 999", x.fade(0), NONE);
    }

    /** Six BROOKS, six VILLAGES, eight DEEDS: all rows to their ends. */
    private static void fullShore() {
        StringBuilder text = new StringBuilder("lake has 9999 black 9999 holds 9999;");
        for (int k = 0; k < 8; k++) {
            char c = (char) ('a' + k);
            if (k < 6) {
                text.append("brook brook").append(c).append(" gives ").append(k).append(" black ").append(10 + k).append(';');
                text.append("village vill").append(c).append(" miles ").append(20 + k).append(';');
            }
        }
        for (int k = 0; k < 8; k++) {
            text.append("deed d").append((char) ('a' + k)).append(" of vill").append((char) ('a' + k * 3 % 6));
            text.append(" needs ").append(1 + k).append(" worth 99 by ").append(92 + k).append(';');
        }
        InkLake x = Lakes.of(text.toString());
        int[] due = {6, 6, 8, 9999, 0, 9999, 9999, 100, 0, 0, 0, 0};
        for (int what = 0; what < due.length; what++) {
            eq("6 full " + what, x.has(what), due[what]);
        }
        for (int k = 0; k < 6; k++) {
            eq("8 full", x.brook(k, 0) * 100 + x.brook(k, 1), 110 * k - 9 * k + 10);
            eq("10 full", x.miles(k), 20 + k);
            eq("7 full", x.letter(0, k, 5), 1 + k);
            eq("7 full", x.letter(0, k, 0), 2);
            eq("7 full", x.letter(1, k, 4), 1 + k);
            eq("7 full", x.letter(1, k, 0), 22);
        }
        eq("17 full", x.share(0), 255);
        eq("17 full", x.share(1), 8 * 99);
        eq("17 full", x.share(2), 36);
        eq("18 full", x.all(255), 0);
        eq("18 full", x.all(256), NONE);
        eq("19 full", x.thinned(1, 9999, NONE, 0), 64);
        eq("19 full", x.thinned(1, 9999, NONE, 2), 63);
        eq("29 full", Lakes.ask(x, "total number"), 28);
        eq("29 full", Lakes.ask(x, "often by 5=1"), 0);
        eq("29 full", Lakes.ask(x, "often by 3=1"), 4);
        eq("29 full", Lakes.ask(x, "last term<99"), 6);
        for (int k = 7; k >= 0; k--) {
            eq("7 full", x.letter(2, k, 1), 1 + k);
            eq("9 full", x.deed(k, 0), k * 3 % 6);
            eq("9 full", x.deed(k, 1), 1 + k);
            eq("9 full", x.deed(k, 2), 99);
            eq("9 full", x.deed(k, 3), 92 + k);
            eq("23 full", x.write(k), 100);
        }
        eq("6 full", x.has(8), 8);
        eq("6 full", x.has(9), 8);
        eq("11 full", x.has(10), 8);
        eq("11 full", x.kept(7, 1), 0);
        eq("11 full", x.kept(0, 1), 7);
        eq("12 full", x.later(60, 3), 255);
        eq("30 full", x.image(), 39);
        eq("31 full", x.octet(37), 0);
        eq("31 full", x.octet(38) == NONE ? 1 : 0, 0);
        eq("31 full", x.octet(39), NONE);
        int[] back = new int[39];
        for (int k = 0; k < 39; k++) {
            back[k] = x.octet(k);
        }
        for (int k = 0; k < 8; k++) {
            Check.yes("27 full", x.undo());
        }
        eq("6 full", x.has(8), 0);
        Check.yes("32 full", Lakes.on(x, back));
        eq("32 full", x.has(8), 8);
        eq("32 full", x.has(5), 9999 - 36);
        eq("16 full", x.missed(), 0);
        StringBuilder tight = new StringBuilder("lake has 1 black 1 holds 1;draws 1");
        while (tight.length() < 1598) {
            tight.append("+1");
        }
        while (tight.length() < 1599) {
            tight.append(' ');
        }
        tight.append(';');
        eq("4 a full tape", Lakes.shore(x, tight.toString()), 2);
    }

    /** What one SHORE tells is gone in the next ones, good or faulty. */
    private static void shoreAfterShore() {
        InkLake x = Lakes.of(PLAIN + "dries 50;reads 9999;drought 100;draws 1;fades 250;may season>5;");
        for (int k = 0; k < 3; k++) {
            Lakes.shore(x, PLAIN);
            eq("4 no dries", x.later(1, 0), 135);
            eq("4 no draws", x.deed(0, 7), 30);
            eq("4 no may", x.write(0), 250);
            eq("4 no reads", x.deed(0, 9), 1);
            eq("4 no fades", x.fade(0), NONE);
            eq("4 no drought", x.years(1), 0);
            Lakes.shore(x, PLAIN + "dries 50;reads 9999;drought 100;draws 1;fades 250;may season>5;brook");
            eq("4 faulty", x.fault(0), 1);
            eq("4 reads 1 still", x.deed(0, 9), 1);
        }
        StringBuilder ones = new StringBuilder("total 1");
        StringBuilder draws = new StringBuilder(PLAIN + "draws 1");
        for (int k = 0; k < 600; k++) {
            ones.append("+1");
            draws.append("+1");
        }
        x = new InkLake();
        for (int k = 0; k < 3; k++) {
            Lakes.shore(x, draws + ";");
            eq("4 a long SUM again", x.deed(1, 7), 601);
            eq("29 a long SUM again", Lakes.ask(x, ones.toString()), 1202);
        }
        x = Lakes.of("lake has 100 black 1 holds 100;village v miles 1;deed d of v needs 1 worth 1 by 1;");
        eq("9 INK 1", x.write(0), 1);
        eq("9 reads 1 without", x.deed(0, 9), 1);
        for (int k = 0; k < 8; k++) {
            Lakes.shore(x, "lake has 1 black 1 holds 1;may not not not [[[");
            eq("4 opened", x.fault(0), 1);
        }
        eq("4 opened ones are closed", Lakes.shore(x, "lake has 1 black 1 holds 1;may not not not [[[all]]];"), 2);
        Lakes.ask(x, "total ((((((");
        eq("29 opened ones are closed", Lakes.ask(x, "total ((((((1))))))"), 0);
        eq("29 opened ones are closed", x.fault(0), 0);
    }
}
