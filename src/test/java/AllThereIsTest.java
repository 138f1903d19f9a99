/** The edges of Terms IV; nothing there yet, and all that there may be (promises 1 to 33). */
public final class AllThereIsTest {
    private static final int NONE = InkLake.NONE;
    private static final int[] NO_BYTES = {};

    public static void main(String[] args) {
        anEmptyTape();
        aTapeFilledByTwenties();
        anyTwentyBytes();
        withoutBrooks();
        withoutVillages();
        withoutDeeds();
        theLeastLake();
        allThatThereMayBe();
        allSixBrooks();
        allSixVillages();
        allEightDeeds();
        firstAndLast();
        oftenOfEachNumber();
        totalOfAllTogether();
        mostAndLeast();
        questionsWithoutDeeds();
        questionsOfWhatIsNotWritten();
        questionsOfWhatWouldBeDrawn();
        byAVillage();
        aQuestionChangesNothing();
        anImageOfNothing();
        anImageOfEachLength();
        anImageOfTheMost();
        anImageOfTheLeast();
        theLastByte();
        anImageOfThisShore();
        anImageAsItTells();
        octetsOfTheLatest();
        faultOfTheLatest();
        textsOneBehindTheOther();
        Check.finish();
    }

    private static void anEmptyTape() {
        InkLake x = Lakes.of(Lakes.PLAIN);
        Check.yes("3 the first 0 bytes of none", x.end(0));
        Check.no("3 the first byte of none", x.end(1));
        Check.eq("4 no SHORE", x.shore(), NONE);
        Check.eq("4 its FAULT at 0", x.fault(0) * 10 + x.fault(1), 10);
        Check.eq("20 no OUTFLOWS", x.outflows(), NONE);
        Check.eq("29 no QUESTION", x.ask(), InkLake.NOTHING);
        Check.eq("29 its FAULT at 0", x.fault(0) * 10 + x.fault(1), 10);
        Check.no("32 no IMAGE", x.on());
        int[] due = {1, 2, 0, 0, 0, 1};
        for (int what = 0; what < due.length; what++) {
            Check.eq("33 an empty tape " + what, x.status(what), due[what]);
        }
        Check.eq("6 all stays", x.has(2), 2);
    }

    private static void aTapeFilledByTwenties() {
        for (int cut : new int[] {0, 1, 19, 20, 21, 1579, 1580, 1581, 1599, 1600}) {
            InkLake x = new InkLake();
            for (int k = 0; k < 80; k++) {
                x.feed(k, k, k, k, k);
            }
            Check.eq("2 no more than 1600", x.feed(0, 0, 0, 0, 0), NONE);
            Check.yes("3 cut to " + cut, x.end(cut));
            Check.eq("2 behind " + cut, x.feed(0, 0, 0, 0, 0), cut <= 1580 ? cut + 20 : NONE);
            Check.eq("2 refused behind " + cut, x.status(0), cut <= 1580 ? 1 : 2);
            Check.no("3 one more than it has", x.end((cut <= 1580 ? cut + 20 : cut) + 1));
        }
    }

    /** Each byte of the five numbers by itself: the highest first, those from 128 on, too. */
    private static void anyTwentyBytes() {
        for (int at = 0; at < 20; at++) {
            for (int octet : new int[] {0, 1, 10, 32, 127, 128, 200, 255}) {
                InkLake x = Lakes.of(Lakes.PLAIN);
                int[] n = {0x20202020, 0x20202020, 0x20202020, 0x20202020, 0x20202020};
                int shift = 24 - at % 4 * 8;
                n[at / 4] = n[at / 4] & ~(255 << shift) | octet << shift;
                x.feed(n[0], n[1], n[2], n[3], n[4]);
                x.shore();
                boolean blank = octet == 10 || octet == 32;
                Check.eq("2 byte " + at + " is " + octet, x.fault(1), blank ? 20 : at);
            }
        }
        InkLake x = Lakes.of(Lakes.PLAIN);
        x.feed(-1, Integer.MIN_VALUE, Integer.MAX_VALUE, 0, 1);
        x.end(8);
        Check.eq("2 bytes 255 255 .. are levels", x.outflows(), 0);
    }

    private static void withoutBrooks() {
        InkLake x = Lakes.of("lake has 5 black 10 holds 9;village v miles 1;deed d of v needs 2 worth 3 by 4;drought 100;");
        Check.eq("6 no BROOKS", x.has(0), 0);
        Check.eq("7 no BROOK's NAME", x.letter(0, 0, 0), NONE);
        Check.eq("8 no BROOK", x.brook(0, 0), NONE);
        Check.eq("8 no BROOK", x.brook(0, 1), NONE);
        Check.eq("12 nothing comes", x.later(60, 0) * 100 + x.later(60, 1), 510);
        Check.eq("14 it can be now", x.soonest(0), 0);
        Check.eq("18 it can be now", x.all(1), 0);
        Check.eq("19 the set of none", x.thinned(1, 5, 200, 0), 1);
        Check.eq("19 no BROOKS in it", x.thinned(1, 5, 200, 1), 0);
        Check.eq("19 no BROOKS in it", x.thinned(1, 5, 200, 2), 0);
        Check.eq("19 no set", x.thinned(1, 6, NONE, 0), 0);
        Check.eq("20 what goes only", Lakes.outflows(x, 3, 1), 1);
        Check.eq("21 what goes only", x.outflow(0), 2);
        Check.eq("25 nothing runs over", x.seasons(100), 0);
        Check.eq("26 no BROOK gave nothing", x.years(100), 0);
        Check.eq("6 nothing came", x.has(5) * 100 + x.has(6), 510);
        Check.eq("6 SEASONS went by", x.has(4), 200);
    }

    private static void withoutVillages() {
        InkLake x = Lakes.of("lake has 5 black 10 holds 9;brook b gives 1 black 1;draws miles+1;fades miles;may miles<1;");
        Check.eq("6 no VILLAGES", x.has(1), 0);
        Check.eq("7 no VILLAGE's NAME", x.letter(1, 0, 0), NONE);
        Check.eq("10 no VILLAGE", x.miles(0), NONE);
        Check.eq("29 miles of none", Lakes.ask(x, "total miles"), 0);
        Check.eq("29 by none", Lakes.ask(x, "often by 0=0"), 0);
        Check.eq("25 SEASONS", x.seasons(9), 5);
    }

    private static void withoutDeeds() {
        InkLake x = Lakes.of("lake has 5 black 10 holds 9;brook b gives 1 black 1;village v miles 1;draws 1;fades 1;may all;reads 0;");
        Check.eq("6 no DEEDS", x.has(2), 0);
        Check.eq("6 none written", x.has(8), 0);
        Check.eq("6 none READ", x.has(9), 0);
        Check.eq("7 no DEED's NAME", x.letter(2, 0, 0), NONE);
        for (int what = 0; what < 10; what++) {
            Check.eq("9 no DEED " + what, x.deed(0, what), NONE);
        }
        Check.eq("11 none KEPT", x.kept(0, 0), NONE);
        Check.eq("12 none READ", x.later(60, 3), 0);
        Check.eq("13 none fades", x.fade(0), NONE);
        Check.eq("14 no soonest", x.soonest(0), NONE);
        Check.eq("15 none dipped", x.dip(0, 0), NONE);
        Check.eq("15 none dipped", x.dip(0, 1), NONE);
        Check.eq("16 none missed", x.missed(), 0);
        Check.eq("17 none SHARED", x.share(0) + x.share(1) + x.share(2), 0);
        Check.eq("18 all of none", x.all(0), 0);
        Check.eq("18 none such", x.all(1), NONE);
        Check.eq("22 none SHORT", x.brief(0), NONE);
        Check.eq("23 none to write", x.write(0), NONE);
        Check.eq("23 refused", x.status(2), 1);
        Check.eq("25 SEASONS", x.seasons(100), 96);
        Check.eq("30 an IMAGE of 7 bytes", x.image(), 7);
        Check.yes("32 an IMAGE of 7 bytes", Lakes.on(x, Lakes.image(999, 9, 9999)));
        Check.eq("32 as it tells", x.has(4), 999);
        Check.no("32 an IMAGE with a DEED", Lakes.on(x, Lakes.image(1, 1, 1, 0, 0, 0, 99)));
    }

    private static void theLeastLake() {
        InkLake x = Lakes.of("lake has 0 black 0 holds 1;");
        int[] due = {0, 0, 0, 1, 0, 0, 0, 0, 0, 0, 0, 0};
        for (int what = 0; what < due.length; what++) {
            Check.eq("6 the least lake " + what, x.has(what), due[what]);
        }
        Check.eq("12 the least lake", x.later(60, 0) + x.later(60, 1) + x.later(60, 2) + x.later(60, 3), 0);
        Check.eq("19 the least lake", x.thinned(999, 0, 0, 0), 1);
        Check.eq("20 the least lake", Lakes.outflows(x, 0), 1000);
        Check.eq("24 one GRAIN", x.pour(1), 1);
        Check.eq("6 not DARK", x.has(7), 0);
    }

    private static String brooks() {
        StringBuilder text = new StringBuilder();
        for (int k = 0; k < 6; k++) {
            text.append("brook b").append((char) ('a' + k)).append(" gives 999 black 999;");
        }
        return text.toString();
    }

    private static String villages() {
        StringBuilder text = new StringBuilder();
        for (int k = 0; k < 6; k++) {
            text.append("village v").append((char) ('a' + k)).append(" miles ").append(94 + k).append(';');
        }
        return text.toString();
    }

    private static String deeds() {
        StringBuilder text = new StringBuilder();
        for (int k = 0; k < 8; k++) {
            text.append("deed d").append((char) ('a' + k)).append(" of v").append((char) ('a' + k % 6));
            text.append(" needs ").append(992 + k).append(" worth ").append(92 + k).append(" by ").append(92 + k).append(';');
        }
        return text.toString();
    }

    private static InkLake full(String rest) {
        return Lakes.of("lake has 9999 black 9999 holds 9999;" + brooks() + villages() + deeds() + rest);
    }

    private static void allThatThereMayBe() {
        InkLake x = new InkLake();
        StringBuilder text = new StringBuilder("lake has 9999 black 9999 holds 9999;" + brooks() + villages() + deeds());
        text.append("draws needs;fades 0;may all;");
        for (int k = 24; k < 70; k++) {
            text.append("reads 1;");
        }
        Check.eq("4 70 STATEMENTS with all that there may be", Lakes.shore(x, text.toString()), 70);
        Check.eq("4 one more of each: a STATEMENT", Lakes.shore(x, text + "reads 1;"), NONE);
        Check.eq("4 a 71st is FAULT 5", x.fault(0), 5);
        Check.eq("4 a 71st at its first byte", x.fault(1), text.length());
        Check.eq("6 all stays", x.has(0) * 100 + x.has(1) * 10 + x.has(2), 668);
        Check.eq("17 all of them", x.share(0), 255);
        Check.eq("25 as much as can run over", x.seasons(100), 100 * 5994);
        Check.eq("6 all that there may be", x.has(5) + x.has(6), 9999 + 9999);
    }

    private static void allSixBrooks() {
        InkLake x = full("drought 100;");
        Check.eq("26 six BROOKS gave nothing", x.years(100), 600);
        Check.eq("6 nothing came", x.has(5), 9999);
        for (int k = 0; k < 6; k++) {
            Check.eq("8 six BROOKS", x.brook(k, 0) * 1000 + x.brook(k, 1), 999999);
            Check.eq("7 six BROOKS", x.letter(0, k, 1), k + 1);
        }
        Check.eq("8 no seventh", x.brook(6, 0), NONE);
        Check.eq("7 no seventh", x.letter(0, 6, 0), NONE);
        Check.eq("19 64 sets", x.thinned(999, 9999, NONE, 0), 64);
    }

    private static void allSixVillages() {
        InkLake x = full("");
        for (int k = 0; k < 6; k++) {
            Check.eq("10 six VILLAGES", x.miles(k), 94 + k);
            Check.eq("7 six VILLAGES", x.letter(1, k, 1), k + 1);
            Check.eq("29 DEEDS by six VILLAGES", Lakes.ask(x, "total by " + k), k < 2 ? 2 : 1);
        }
        Check.eq("10 no seventh", x.miles(6), NONE);
        Check.eq("7 no seventh", x.letter(1, 6, 0), NONE);
        Check.eq("29 by no seventh", Lakes.ask(x, "total by 6"), 0);
    }

    private static void allEightDeeds() {
        InkLake x = full("reads 0;");
        for (int k = 0; k < 8; k++) {
            Check.eq("9 its VILLAGE", x.deed(k, 0), k % 6);
            Check.eq("9 needs", x.deed(k, 1), 992 + k);
            Check.eq("9 worth", x.deed(k, 2), 92 + k);
            Check.eq("9 term", x.deed(k, 3), 92 + k);
            Check.eq("7 eight DEEDS", x.letter(2, k, 1), k + 1);
            Check.eq("22 eight DEEDS", x.brief(k), 2);
            Check.eq("23 eight DEEDS", x.write(k), 100);
            Check.eq("12 as bits", x.later(60, 3), (2 << k) - 1);
        }
        Check.eq("6 all written, READ, KEPT, to be undone", x.has(8) * 1000 + x.has(9) * 100 + x.has(10) * 10 + x.has(11), 8888);
        Check.eq("17 none is left", x.share(0), 0);
        Check.eq("18 none is left", x.all(0), 0);
        Check.eq("18 none is left", x.all(255), NONE);
        Check.eq("9 no ninth", x.deed(8, 0), NONE);
        Check.eq("7 no ninth", x.letter(2, 8, 0), NONE);
        Check.eq("22 no ninth", x.brief(8), NONE);
        Check.eq("23 no ninth", x.write(8), NONE);
        Check.eq("11 no ninth", x.kept(8, 0), NONE);
        InkLake late = full("");
        late.seasons(95);
        Check.eq("16 three missed", late.missed(), 7);
        Check.eq("17 five are left", late.share(0), 248);
        late.seasons(5);
        Check.eq("16 all missed", late.missed(), 255);
    }

    private static void firstAndLast() {
        InkLake x = full("");
        for (int k = 0; k < 8; k++) {
            Check.eq("IV first", Lakes.ask(x, "first number>" + k + " or number=" + k), k);
            Check.eq("IV last", Lakes.ask(x, "last number<" + k + " or number=" + k), k);
        }
        Check.eq("IV first of none", Lakes.ask(x, "first number>7"), NONE);
        Check.eq("IV last of none", Lakes.ask(x, "last number<0"), NONE);
        Check.eq("IV none is no FAULT", x.fault(0) * 10 + x.fault(1), -1);
        Check.eq("IV first of all", Lakes.ask(x, "first all"), 0);
        Check.eq("IV last of all", Lakes.ask(x, "last all"), 7);
    }

    private static void oftenOfEachNumber() {
        InkLake x = full("");
        for (int k = 0; k <= 8; k++) {
            Check.eq("IV often", Lakes.ask(x, "often number<" + k), k);
            Check.eq("IV often not", Lakes.ask(x, "often not number<" + k), 8 - k);
        }
    }

    private static void totalOfAllTogether() {
        InkLake x = full("");
        Check.eq("IV all together", Lakes.ask(x, "total 1"), 8);
        Check.eq("IV all together beyond a million", Lakes.ask(x, "total 9999*9999"), 8000000);
        Check.eq("IV all together beyond a million below", Lakes.ask(x, "total 0-9999*9999"), -8000000);
        Check.eq("IV each a million", Lakes.ask(x, "total 1000*1000"), 8000000);
        Check.eq("IV each one below", Lakes.ask(x, "total 1000*1000-1"), 7999992);
        Check.eq("IV unlike ones", Lakes.ask(x, "total number*number"), 140);
        Check.eq("IV to nothing", Lakes.ask(x, "total number-7/2"), 28 - 24);
        InkLake one = Lakes.of("lake has 5 black 10 holds 9;village v miles 1;deed d of v needs 2 worth 3 by 4;");
        Check.eq("IV one alone", Lakes.ask(one, "total 9999*9999"), 1000000);
    }

    private static void mostAndLeast() {
        InkLake x = full("");
        Check.eq("IV the greatest", Lakes.ask(x, "most number"), 7);
        Check.eq("IV the least", Lakes.ask(x, "least number"), 0);
        Check.eq("IV the greatest in the middle", Lakes.ask(x, "most (number-3)*(3-number)"), 0);
        Check.eq("IV the least in the middle", Lakes.ask(x, "least (number-3)*(number-3)"), 0);
        Check.eq("IV the greatest below 0", Lakes.ask(x, "most 0-1-number"), -1);
        Check.eq("IV the least below 0", Lakes.ask(x, "least 0-1-number"), -8);
        Check.eq("IV the least above 0", Lakes.ask(x, "least 1+number"), 1);
        Check.eq("IV a million", Lakes.ask(x, "most 9999*9999"), 1000000);
        Check.eq("IV a million below 0", Lakes.ask(x, "least 0-9999*9999"), -1000000);
        Check.eq("IV a million below 0", Lakes.ask(x, "most 0-9999*9999"), -1000000);
    }

    private static void questionsWithoutDeeds() {
        InkLake x = Lakes.of("lake has 5 black 10 holds 9;");
        Check.eq("IV first of none", Lakes.ask(x, "first all"), NONE);
        Check.eq("IV last of none", Lakes.ask(x, "last all"), NONE);
        Check.eq("IV often of none", Lakes.ask(x, "often all"), 0);
        Check.eq("IV total of none", Lakes.ask(x, "total 7"), 0);
        Check.eq("IV most of none", Lakes.ask(x, "most 7"), 0);
        Check.eq("IV least of none", Lakes.ask(x, "least 7"), 0);
        Check.eq("IV no FAULT", x.fault(0), 0);
        Check.eq("IV a FAULT of none", Lakes.ask(x, "least d"), InkLake.NOTHING);
    }

    private static void questionsOfWhatIsNotWritten() {
        InkLake x = Lakes.of("lake has 5 black 10 holds 9;village v miles 1;deed c of v needs 2 worth 3 by 4;deed d of v needs 2 worth 3 by 4;");
        Check.eq("IV INK 0", Lakes.ask(x, "most ink"), 0);
        Check.eq("IV age 99", Lakes.ask(x, "least age"), 99);
        x.write(0);
        Check.eq("IV INK of one", Lakes.ask(x, "total ink"), 200);
        Check.eq("IV age of one", Lakes.ask(x, "total age"), 99);
        x.seasons(99);
        Check.eq("IV age 99 of both", Lakes.ask(x, "total age"), 198);
        Check.eq("IV SEASON", Lakes.ask(x, "most season"), 99);
        x.undo();
        x.undo();
        Check.eq("IV INK 0 again", Lakes.ask(x, "most ink"), 0);
    }

    private static void questionsOfWhatWouldBeDrawn() {
        InkLake x = Lakes.of("lake has 5 black 10 holds 9;brook b gives 1 black 0;village v miles 1;deed c of v needs 2 worth 3 by 4;"
                + "deed d of v needs 3 worth 3 by 1;draws level*needs-9;");
        Check.eq("IV what it would DRAW", Lakes.ask(x, "total draws*10+number"), 1 * 10 + 6 * 10 + 1);
        x.seasons(2);
        Check.eq("IV what it would DRAW behind its term", Lakes.ask(x, "last draws=12"), 1);
        InkLake y = Lakes.of(Lakes.PLAIN);
        y.write(0);
        Check.eq("IV what it would DRAW if it is written", Lakes.ask(y, "total draws"), 80);
        Check.eq("IV more than there is", Lakes.ask(Lakes.of(Lakes.PLAIN + "draws 9999+needs;"), "least draws"), 9999);
        Check.eq("IV never below 0", Lakes.ask(Lakes.of(Lakes.PLAIN + "draws 0-needs;"), "most draws"), 0);
    }

    private static void byAVillage() {
        InkLake x = Lakes.of("lake has 5 black 10 holds 9;village v miles 1;village w miles 1;deed c of w needs 2 worth 3 by 4;"
                + "deed d of v needs 3 worth 3 by 1;deed e of w needs 1 worth 1 by 1;");
        String[] parts = {"0", "1", "2", "9999", "(0-1)", "(0-1000)*1", "(1000*1000)", "number", "(number-1)", "min(0,1)", "by 0", "by by 0"};
        int[] due = {1, 2, 0, 0, 0, 0, 0, 0, 2, 1, 0, 1};
        for (int k = 0; k < parts.length; k++) {
            Check.eq("IV by " + parts[k], Lakes.ask(x, "total by " + parts[k]), due[k]);
        }
        Check.eq("IV of its VILLAGE", Lakes.ask(x, "first by 1=1"), 0);
        Check.eq("IV of its VILLAGE", Lakes.ask(x, "last by 1=1"), 2);
        Check.eq("IV not of it", Lakes.ask(x, "first by 1=0"), 1);
    }

    private static void aQuestionChangesNothing() {
        InkLake x = full("fades 1;");
        x.write(0);
        x.seasons(3);
        Lakes.put(x, "total draws+ink+age+season");
        Told before = Told.of(x);
        x.ask();
        before.stays("29 a QUESTION", x, -1);
        Check.no("29 its tape goes", x.end(1));
    }

    private static void sameBytes(String sentence, InkLake x, int[] due) {
        Check.eq(sentence + ": as many bytes", x.image(), due.length);
        for (int k = 0; k < due.length; k++) {
            Check.eq(sentence + ": byte " + k, x.octet(k), due[k]);
        }
        Check.eq(sentence + ": none behind", x.octet(due.length), NONE);
        Check.eq(sentence + ": none ahead", x.octet(-1), NONE);
    }

    private static void anImageOfNothing() {
        sameBytes("30 without a lake", new InkLake(), Lakes.image(0, 0, 0));
        Check.eq("31 ahead of any image()", new InkLake().octet(0), NONE);
        sameBytes("30 the least lake", Lakes.of("lake has 0 black 0 holds 1;"), Lakes.image(0, 0, 0));
    }

    private static void anImageOfEachLength() {
        for (int count = 0; count <= 8; count++) {
            StringBuilder text = new StringBuilder("lake has 9 black 9 holds 9;village v miles 1;");
            int[] rows = new int[4 * count];
            for (int k = 0; k < count; k++) {
                text.append("deed d").append((char) ('a' + k)).append(" of v needs 1 worth 1 by 1;");
                rows[4 * k + 3] = 99;
            }
            InkLake x = Lakes.of(text.toString());
            sameBytes("30 DEEDS " + count, x, Lakes.image(0, 9, 9, rows));
            Check.yes("32 DEEDS " + count, Lakes.on(x, Lakes.image(7, 1, 2, rows)));
            sameBytes("30 DEEDS " + count, x, Lakes.image(7, 1, 2, rows));
        }
    }

    private static int[] times(int count, int... row) {
        int[] all = new int[count * row.length];
        for (int k = 0; k < all.length; k++) {
            all[k] = row[k % row.length];
        }
        return all;
    }

    private static void anImageOfTheMost() {
        InkLake x = full("");
        int[] most = Lakes.image(999, 9999, 9999, times(8, 1, 39, 15, 99));
        Check.yes("32 the most of all", Lakes.on(x, most));
        sameBytes("30 the most of all", x, most);
        Check.eq("6 the most of all", x.has(4) + x.has(5) + x.has(6), 999 + 9999 + 9999);
        for (int k = 0; k < 8; k++) {
            Check.eq("9 the most of all", x.deed(k, 5) * 100 + x.deed(k, 6), 999999);
        }
        int[][] above = {Lakes.image(1000, 9999, 9999, times(8, 1, 39, 15, 99)), Lakes.image(999, 10000, 9999, times(8, 1, 39, 15, 99)),
            Lakes.image(999, 9999, 10000, times(8, 1, 39, 15, 99)), Lakes.image(999, 9999, 9999, times(8, 1, 39, 16, 99)),
            Lakes.image(999, 9999, 9999, times(8, 1, 39, 15, 100)), Lakes.image(999, 9999, 9999, times(8, 2, 39, 15, 99)),
            Lakes.image(999, 9999, 9999, times(9, 1, 39, 15, 99)), Lakes.image(999, 9999, 9999, times(7, 1, 39, 15, 99)), NO_BYTES};
        for (int k = 0; k < above.length; k++) {
            Check.no("32 one more than the most " + k, Lakes.on(x, above[k]));
            Check.eq("32 refused " + k, x.status(5), k + 1);
        }
        sameBytes("30 all stays", x, most);
    }

    private static void anImageOfTheLeast() {
        InkLake x = full("");
        x.write(0);
        x.seasons(1);
        int[] least = Lakes.image(0, 0, 0, times(8, 1, 0, 0, 0));
        Check.yes("32 the least of all", Lakes.on(x, least));
        sameBytes("30 the least of all", x, least);
        Check.eq("32 nothing is KEPT or can be undone", x.has(10) + x.has(11), 0);
        int[] none = Lakes.image(0, 0, 0, times(8, 0, 0, 0, 99));
        Check.yes("32 none is written", Lakes.on(x, none));
        sameBytes("30 none is written", x, none);
        Check.eq("32 none is written", x.has(8), 0);
        for (int k = 0; k < 8; k++) {
            for (int part = 1; part < 4; part++) {
                int[] rows = times(8, 0, 0, 0, 99);
                rows[4 * k + part] = part == 3 ? 98 : 1;
                Check.no("32 0, 0, 99 if it is not: DEED " + k + " part " + part, Lakes.on(x, Lakes.image(0, 0, 0, rows)));
            }
        }
    }

    private static void theLastByte() {
        int right = 0;
        for (int octet = 0; octet < 256; octet++) {
            InkLake x = Lakes.of("lake has 5 black 10 holds 9;");
            int[] bytes = Lakes.image(3, 4, 5);
            int due = bytes[6];
            bytes[6] = octet;
            boolean on = Lakes.on(x, bytes);
            Check.eq("32 the last byte " + octet, on ? 1 : 0, octet == due ? 1 : 0);
            right += on ? 1 : 0;
        }
        Check.eq("32 one last byte alone", right, 1);
        boolean nought = false;
        boolean most = false;
        for (int grains = 0; grains <= 255; grains++) {
            InkLake x = Lakes.of("lake has 9 black " + grains + " holds 9;");
            sameBytes("30 GRAINS " + grains, x, Lakes.image(0, 9, grains));
            nought |= x.octet(6) == 0;
            most |= x.octet(6) == 250;
        }
        Check.yes("30 the last byte is 0 and 250 once each", nought && most);
    }

    private static void anImageOfThisShore() {
        InkLake two = Lakes.of(Lakes.PLAIN);
        InkLake none = Lakes.of("lake has 5 black 10 holds 9;");
        Check.no("32 of a SHORE with other DEEDS", Lakes.on(two, Lakes.image(0, 0, 0)));
        Check.no("32 of a SHORE with other DEEDS", Lakes.on(none, Lakes.image(0, 0, 0, times(2, 0, 0, 0, 99))));
        Check.no("32 more than this one holds", Lakes.on(none, Lakes.image(0, 10, 0)));
        Check.yes("32 as much as this one holds", Lakes.on(none, Lakes.image(0, 9, 0)));
        Check.no("32 without a lake", Lakes.on(new InkLake(), Lakes.image(0, 0, 0)));
    }

    private static void anImageAsItTells() {
        InkLake x = Lakes.of(Lakes.PLAIN + "fades 10;drought 20;");
        x.write(0);
        x.seasons(2);
        Lakes.outflows(x, 20);
        Check.yes("32 an IMAGE", Lakes.on(x, Lakes.image(256, 149, 513, 1, 1, 2, 98, 1, 0, 3, 0)));
        Check.eq("32 SEASON", x.has(4), 256);
        Check.eq("32 BUCKETS", x.has(5), 149);
        Check.eq("32 GRAINS", x.has(6), 513);
        Check.eq("32 INK", x.deed(0, 5) * 1000 + x.deed(1, 5), 258003);
        Check.eq("32 age", x.deed(0, 6) * 100 + x.deed(1, 6), 9800);
        Check.eq("32 nothing is KEPT", x.has(10), 0);
        Check.eq("32 nothing can be undone", x.has(11), 0);
        Check.eq("32 it goes on from there", x.seasons(1), 34);
        Check.eq("32 it goes on from there", x.deed(0, 5) * 100 + x.deed(0, 6), 24899);
        x.seasons(1);
        Check.eq("32 age 99 at most", x.deed(0, 6), 99);
        Check.eq("32 the seed stays: 18, then 99", x.years(1), 1);
    }

    private static void octetsOfTheLatest() {
        InkLake x = full("");
        Check.eq("30 39 bytes", x.image(), 39);
        int last = x.octet(38);
        x.seasons(1);
        Check.eq("31 the latest image()", x.octet(38), last);
        Lakes.shore(x, "lake has 5 black 10 holds 9;");
        Check.eq("31 the latest image()", x.octet(38), last);
        Check.eq("30 7 bytes", x.image(), 7);
        Check.eq("31 none of the one ahead", x.octet(7), NONE);
        Check.eq("31 none of the one ahead", x.octet(38), NONE);
        Check.yes("32 an IMAGE", Lakes.on(x, Lakes.image(1, 1, 1)));
        Check.eq("31 not what on() took", x.octet(1), 0);
    }

    private static void faultOfTheLatest() {
        InkLake x = new InkLake();
        Check.eq("5 0 ahead of any", x.fault(0), 0);
        Check.eq("5 NONE ahead of any", x.fault(1), NONE);
        Lakes.shore(x, "lake has 5 black 10 holds 4;");
        Check.eq("5 of shore()", x.fault(0) * 100 + x.fault(1), 226);
        Lakes.ask(x, "most #");
        Check.eq("5 of shore(), ask() does nothing without a lake", x.fault(0) * 100 + x.fault(1), 226);
        Lakes.shore(x, Lakes.PLAIN);
        Check.eq("5 without", x.fault(0) * 100 + x.fault(1), -1);
        Lakes.ask(x, "most ((((((((1");
        Check.eq("5 of ask()", x.fault(0) * 100 + x.fault(1), 411);
        Lakes.shore(x, "#");
        Check.eq("5 of shore()", x.fault(0) * 100 + x.fault(1), 100);
        Lakes.ask(x, "most 1");
        Check.eq("5 without", x.fault(0) * 100 + x.fault(1), -1);
        for (int what : new int[] {-1, 2, 3, Integer.MAX_VALUE, Integer.MIN_VALUE}) {
            Check.eq("5 another what", x.fault(what), NONE);
        }
    }

    /** A long text leaves nothing behind for the shorter one that comes then. */
    private static void textsOneBehindTheOther() {
        InkLake x = full("draws 1+2*(3-4);fades ink;may not [all and season<0];dries 9;reads 9;drought 9;");
        Check.eq("4 a short one", Lakes.shore(x, "lake has 5 black 10 holds 9;"), 1);
        Check.eq("4 nothing of the long one", x.has(0) + x.has(1) + x.has(2), 0);
        Check.eq("4 nothing of the long one", x.later(1, 0), 5);
        Check.eq("4 NAMES are free again", Lakes.shore(x, "lake has 5 black 10 holds 9;village ba miles 1;brook da gives 1 black 1;"), 3);
        Lakes.ask(x, "total " + "1+".repeat(700) + "1");
        Check.eq("29 a short one", Lakes.ask(x, "total 1"), 0);
        Check.eq("29 a cut one", Lakes.ask(x, "total"), InkLake.NOTHING);
        Check.eq("29 at its own length", x.fault(1), 5);
        Lakes.put(x, Lakes.PLAIN);
        x.end(30);
        Check.eq("4 a cut one", x.shore(), NONE);
        Check.eq("4 nothing behind the cut", x.fault(1) <= 30 ? 1 : 0, 1);
    }
}
