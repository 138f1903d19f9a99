import java.util.function.ToIntFunction;

/** The edges of the texts (Terms I and IV): each sentence that names a number, a limit or a FAULT by itself. */
public final class TextEdgesTest {
    private static final int NONE = InkLake.NONE;
    private static final int DRAWS = 100;
    private static final String LAKE = "lake has 5 black 6 holds 9;";
    private static final String VILLAGE = LAKE + "village v miles 1;";
    private static final String DEED = "lake has 9999 black 9999 holds 9999;village v miles 1;deed d of v needs 1 worth 1 by 1;";
    private static final String[] OWN_WORDS = {"lake", "has", "black", "holds", "brook", "gives", "village", "miles", "deed", "of",
        "needs", "worth", "by", "draws", "fades", "may", "dries", "reads", "drought", "season", "level", "dark", "ink", "age",
        "number", "term", "or", "and", "not", "all", "min", "max"};

    public static void main(String[] args) {
        numbersOfTheLake();
        noMoreThanItHolds();
        numbersOfBrooks();
        numbersOfVillages();
        numbersOfDeeds();
        numbersOfDries();
        numbersOfReads();
        numbersOfDrought();
        numbersOfSums();
        numbersOfQuestions();
        withoutDriesReadsDrought();
        theLastOfEachCounts();
        theLakeFirstAndAlone();
        lettersOfNames();
        ownWordsAreNoNames();
        wordsThatOnlyQuestionsKnow();
        namesUnlikeOnes();
        namesToldAhead();
        blanksWhereOneLikes();
        blanksThatAreNeeded();
        bytesThatNoTextHas();
        tooSoonAnEnd();
        theFirstFaultAlongTheText();
        sixBrooks();
        sixVillages();
        eightDeeds();
        oneDrawsOneFadesOneMay();
        seventyStatements();
        sixOpenInSums();
        sixOpenInTests();
        sixOpenInQuestions();
        closedOnesAreNotOpen();
        theSeventhBehindClosedOnes();
        aFullTape();
        anEmptyTape();
        questionsEnd();
        partsOfEachText();
        Check.finish();
    }

    private static String numbered(String text, Object number) {
        return text.replace("#", number.toString());
    }

    /** The mark | in the text tells where the FAULT is due. */
    private static void fault(String sentence, int kind, String marked) {
        int place = marked.indexOf('|');
        InkLake x = new InkLake();
        Check.eq(sentence + ": shore of " + marked, Lakes.shore(x, marked.replace("|", "")), NONE);
        Check.eq(sentence + ": fault of " + marked, x.fault(0), kind);
        Check.eq(sentence + ": place in " + marked, x.fault(1), place);
        Check.eq(sentence + ": refused " + marked, x.status(1), 1);
    }

    private static void askFault(String sentence, int kind, String marked) {
        int place = marked.indexOf('|');
        InkLake x = Lakes.of(DEED);
        Check.eq(sentence + ": answer to " + marked, Lakes.ask(x, marked.replace("|", "")), InkLake.NOTHING);
        Check.eq(sentence + ": fault of " + marked, x.fault(0), kind);
        Check.eq(sentence + ": place in " + marked, x.fault(1), place);
        for (int what = 0; what < 6; what++) {
            Check.eq(sentence + ": nothing is counted for " + marked, x.status(what), 0);
        }
    }

    private static void good(String sentence, String text, int statements) {
        InkLake x = new InkLake();
        Check.eq(sentence + ": shore of " + text, Lakes.shore(x, text), statements);
        Check.eq(sentence + ": no fault of " + text, x.fault(0), 0);
        Check.eq(sentence + ": no place of " + text, x.fault(1), NONE);
        Check.eq(sentence + ": not refused " + text, x.status(1), 0);
    }

    private static void askGood(String sentence, String text, long due) {
        InkLake x = Lakes.of(DEED);
        Check.eq(sentence + ": " + text, Lakes.ask(x, text), due);
        Check.eq(sentence + ": no fault of " + text, x.fault(0), 0);
        Check.eq(sentence + ": no place of " + text, x.fault(1), NONE);
    }

    /** A number of a SHORE's text stands where # stands; what the lake tells of it has to be it. */
    private static void number(String sentence, String text, int least, int greatest, ToIntFunction<InkLake> told) {
        for (int good : new int[] {least, least + 1, greatest - 1, greatest}) {
            Check.eq(sentence + ": " + good, told.applyAsInt(Lakes.of(numbered(text, good))), good);
        }
        Check.eq(sentence + ": with noughts ahead", told.applyAsInt(Lakes.of(numbered(text, String.format("%04d", least)))), least);
        if (least > 0) {
            fault(sentence + ": one below", 2, numbered(text, "|" + (least - 1)));
            fault(sentence + ": no nought", 2, numbered(text, "|0"));
        }
        if (greatest < 9999) {
            fault(sentence + ": one above", 2, numbered(text, "|" + (greatest + 1)));
            fault(sentence + ": four digits", 2, numbered(text, "|9999"));
        }
        fault(sentence + ": a 5th digit", 1, numbered(text, "1000|0"));
        fault(sentence + ": a 5th digit behind noughts", 1, numbered(text, "0000|" + least));
        fault(sentence + ": below 0", 1, numbered(text, "|-1"));
        fault(sentence + ": none", 1, numbered(text, "|;"));
        fault(sentence + ": a word", 1, numbered(text, "|one"));
    }

    private static void numbersOfTheLake() {
        number("I 0 .. 9999 BUCKETS", "lake has # black 6 holds 9999;", 0, 9999, x -> x.has(5));
        number("I 0 .. 9999 GRAINS", "lake has 5 black # holds 9999;", 0, 9999, x -> x.has(6));
        number("I holds 1 .. 9999", "lake has 0 black 6 holds #;", 1, 9999, x -> x.has(3));
    }

    private static void noMoreThanItHolds() {
        for (int has : new int[] {1, 2, 500, 9998, 9999}) {
            String text = "lake has " + has + " black 0 holds ";
            Check.eq("I as much as it holds", Lakes.of(text + has + ";").has(5), has);
            fault("I more than it holds, the latter", 2, text + "|" + (has - 1) + ";");
        }
        fault("I more than it holds, at the first number that can't be", 2, "lake has 9 black 0 holds |8");
        fault("I the number ahead of what is wrong behind it", 2, "lake has 9 black 0 holds |0 brook");
    }

    private static void numbersOfBrooks() {
        number("I a BROOK's 0 .. 999 BUCKETS", LAKE + "brook b gives # black 1;", 0, 999, x -> x.brook(0, 0));
        number("I a BROOK's 0 .. 999 GRAINS", LAKE + "brook b gives 1 black #;", 0, 999, x -> x.brook(0, 1));
    }

    private static void numbersOfVillages() {
        number("I a VILLAGE's 0 .. 99 miles", LAKE + "village v miles #;", 0, 99, x -> x.miles(0));
    }

    private static void numbersOfDeeds() {
        number("I needs 1 .. 999", VILLAGE + "deed d of v needs # worth 1 by 1;", 1, 999, x -> x.deed(0, 1));
        number("I worth 0 .. 99", VILLAGE + "deed d of v needs 1 worth # by 1;", 0, 99, x -> x.deed(0, 2));
        number("I a term 0 .. 99", VILLAGE + "deed d of v needs 1 worth 1 by #;", 0, 99, x -> x.deed(0, 3));
    }

    private static void numbersOfDries() {
        number("I dries 0 .. 100", "lake has 100 black 6 holds 100;dries #;", 0, 100, x -> 100 - x.later(1, 0));
    }

    /** The least INK that can be read. */
    private static int leastRead(InkLake x) {
        int low = 0;
        int high = 9999;
        while (low < high) {
            int middle = (low + high) / 2;
            Check.yes("I an image to look at reads", Lakes.on(x, Lakes.image(0, 0, 0, 1, middle >> 8, middle & 255, 0)));
            if (x.deed(0, 9) == 1) {
                high = middle;
            } else {
                low = middle + 1;
            }
        }
        return low;
    }

    private static void numbersOfReads() {
        number("I reads 0 .. 9999", DEED + "reads #;", 0, 9999, TextEdgesTest::leastRead);
    }

    private static long nextSeed(long seed) {
        return (1103515245L * seed + 12345L) % (1L << 31);
    }

    /** By how many of the hundred DRAWS that there can be the BROOK gives nothing. */
    private static int dryDraws(InkLake x) {
        int dry = 0;
        for (int draw = 0; draw < DRAWS; draw++) {
            int seed = 0;
            while (nextSeed(seed) / 64 % 100 != draw) {
                seed++;
            }
            x.seed(seed);
            dry += x.years(1);
            x.undo();
        }
        return dry;
    }

    private static void numbersOfDrought() {
        number("I drought 0 .. 100", LAKE + "brook b gives 1 black 1;drought #;", 0, 100, TextEdgesTest::dryDraws);
    }

    private static void numbersOfSums() {
        number("I a SUM's N in draws", DEED + "draws #;", 0, 9999, x -> x.deed(0, 7));
        number("I a SUM's N in brackets", DEED + "draws min((#),9999);", 0, 9999, x -> x.deed(0, 7));
        number("I a SUM's N in fades", DEED + "fades #;", 0, 9999, TextEdgesTest::fadedInk);
        number("I a SUM's N in may", DEED + "may level>#;", 0, 9999, TextEdgesTest::mostLevelBelow);
    }

    private static int fadedInk(InkLake x) {
        Lakes.on(x, Lakes.image(0, 1, 1, 1, 39, 15, 0));
        x.seasons(1);
        return 9999 - x.deed(0, 5);
    }

    /** The most BUCKETS by which the DEED can't be written. */
    private static int mostLevelBelow(InkLake x) {
        int low = 0;
        int high = 10000;
        while (low < high) {
            int middle = (low + high) / 2;
            Check.yes("I an image to look at level", middle > 9999 || Lakes.on(x, Lakes.image(0, middle, 0, 0, 0, 0, 99)));
            if (x.deed(0, 8) == 1) {
                high = middle;
            } else {
                low = middle + 1;
            }
        }
        return low - 1;
    }

    private static void numbersOfQuestions() {
        for (String ahead : new String[] {"most ", "total ", "least ", "total (", "most min(9999,"}) {
            String behind = ahead.contains("(") ? ")" : "";
            for (int n : new int[] {0, 1, 9998, 9999}) {
                askGood("IV N", ahead + n + behind, n);
            }
            askGood("IV N with noughts ahead", ahead + "0007" + behind, 7);
            askFault("IV a 5th digit", 1, ahead + "1000|0" + behind);
            askFault("IV a 5th digit behind noughts", 1, ahead + "0000|0" + behind);
            askFault("IV below 0", 1, ahead + "|-1" + behind);
        }
        askFault("IV a 5th digit of by's PART", 1, "first by 0000|0=1");
        askFault("IV a 5th digit behind a SIGN", 1, "often ink<9999|9");
    }

    private static void withoutDriesReadsDrought() {
        String text = "lake has 100 black 1 holds 150;brook b gives 7 black 0;village v miles 1;deed a of v needs 1 worth 1 by 9;";
        InkLake x = Lakes.of(text);
        Check.eq("I dries 0 without", x.later(1, 0), 107);
        Check.eq("I reads 1 without", leastRead(x), 1);
        Check.eq("I drought 0 without", x.years(100), 0);
    }

    private static void theLastOfEachCounts() {
        InkLake x = Lakes.of("lake has 100 black 6 holds 100;dries 100;dries 0;dries 3;");
        Check.eq("I the last dries counts", x.later(1, 0), 97);
        x = Lakes.of(DEED + "reads 9999;reads 0;reads 17;");
        Check.eq("I the last reads counts", leastRead(x), 17);
        x = Lakes.of(LAKE + "brook b gives 1 black 1;drought 100;drought 0;drought 42;");
        Check.eq("I the last drought counts", dryDraws(x), 42);
        x = Lakes.of("lake has 100 black 6 holds 100;dries 100;reads 5;dries 0;");
        Check.eq("I the last dries counts, 0 too", x.later(1, 0), 100);
    }

    private static void theLakeFirstAndAlone() {
        good("I the lake alone", LAKE, 1);
        fault("I the lake first", 1, "|brook b gives 1 black 1;" + LAKE);
        fault("I the lake first", 1, "|village v miles 1;" + LAKE);
        fault("I the lake first", 1, "|dries 1;");
        fault("I the lake first", 1, "|draws 1;");
        fault("I the lake alone is the first", 1, LAKE + "|lake has 5 black 6 holds 9;");
        fault("I the lake alone is the first", 1, LAKE + "dries 1;|lake");
    }

    private static void lettersOfNames() {
        for (String kind : new String[] {"brook # gives 1 black 1;", "village # miles 1;", "deed # of v needs 1 worth 1 by 1;"}) {
            String text = VILLAGE + kind;
            good("I a NAME of 1 letter", numbered(text, "a"), 3);
            good("I a NAME of 1 letter", numbered(text, "z"), 3);
            good("I a NAME of 5 letters", numbered(text, "abcde"), 3);
            good("I a NAME of 6 letters", numbered(text, "abcdef"), 3);
            good("I a NAME of 6 letters", numbered(text, "zzzzzz"), 3);
            fault("I a 7th letter", 1, numbered(text, "abcdef|g"));
            fault("I an 8th letter", 1, numbered(text, "abcdef|gh"));
            fault("I a 7th letter behind an OWN WORD's", 1, numbered(text, "villag|es"));
            fault("I a 7th letter behind an OWN WORD's", 1, numbered(text, "drough|ty"));
            fault("I a NAME of no letter", 1, numbered(text, "|;"));
            fault("I a large letter", 1, numbered(text, "|A"));
            fault("I a large letter behind", 1, numbered(text, "a|Z"));
            fault("I the byte ahead of a", 1, numbered(text, "|`"));
            fault("I the byte behind z", 1, numbered(text, "|{"));
            fault("I a number for a NAME", 1, numbered(text, "|1"));
            fault("I a number in a NAME", 1, numbered(text, "a|1"));
        }
        fault("I a 7th letter where a VILLAGE is asked", 1, VILLAGE + "deed d of vvvvvv|v needs 1 worth 1 by 1;");
        InkLake x = Lakes.of(LAKE + "village abcxyz miles 1;deed d of abcxyz needs 1 worth 1 by 1;");
        Check.eq("I a VILLAGE of 6 letters is found", x.deed(0, 0), 0);
    }

    private static void ownWordsAreNoNames() {
        for (String word : OWN_WORDS) {
            fault("I no OWN WORD", 1, LAKE + "brook |" + word + " gives 1 black 1;");
            fault("I no OWN WORD", 1, LAKE + "village |" + word + " miles 1;");
            fault("I no OWN WORD", 1, VILLAGE + "deed |" + word + " of v needs 1 worth 1 by 1;");
            fault("I no OWN WORD", 1, VILLAGE + "deed d of |" + word + " needs 1 worth 1 by 1;");
            fault("I no OWN WORD at the text's end", 1, LAKE + "brook |" + word);
            if (word.length() < 6) {
                good("I an OWN WORD with a letter more is none", LAKE + "brook " + word + "x gives 1 black 1;", 2);
            }
            String part = word.substring(0, word.length() - 1);
            boolean own = false;
            for (String other : OWN_WORDS) {
                own |= other.equals(part);
            }
            if (!own && part.length() > 0 && part.length() <= 6) {
                good("I an OWN WORD without its last letter is none", LAKE + "brook " + part + " gives 1 black 1;", 2);
            }
        }
    }

    private static void wordsThatOnlyQuestionsKnow() {
        for (String word : new String[] {"first", "last", "often", "total", "most", "least"}) {
            good("I no OWN WORD", LAKE + "brook " + word + " gives 1 black 1;", 2);
            good("I no OWN WORD", VILLAGE + "deed " + word + " of v needs 1 worth 1 by 1;", 3);
            fault("I no STATEMENT", 1, LAKE + "|" + word + " 1;");
            fault("I no PART", 1, LAKE + "draws |" + word + ";");
        }
        for (String word : OWN_WORDS) {
            askFault("IV an OWN WORD begins no QUESTION", 1, "|" + word + " all");
        }
    }

    private static void namesUnlikeOnes() {
        String all = LAKE + "brook b gives 1 black 1;village v miles 1;deed d of v needs 1 worth 1 by 1;";
        for (String name : new String[] {"b", "v", "d"}) {
            fault("I unlike ones of all sorts", 3, all + "brook |" + name + " gives 1 black 1;");
            fault("I unlike ones of all sorts", 3, all + "village |" + name + " miles 1;");
            fault("I unlike ones of all sorts", 3, all + "deed |" + name + " of v needs 1 worth 1 by 1;");
            good("I unlike by a letter more", all + "brook " + name + "b gives 1 black 1;", 5);
        }
        fault("I unlike ones of 6 letters", 3, LAKE + "brook abcdef gives 1 black 1;village |abcdef miles 1;");
        good("I unlike by the 6th letter", LAKE + "brook abcdef gives 1 black 1;village abcdeg miles 1;", 3);
        good("I unlike by the 1st letter", LAKE + "brook abcdef gives 1 black 1;village bbcdef miles 1;", 3);
    }

    private static void namesToldAhead() {
        good("I told ahead", VILLAGE + "deed d of v needs 1 worth 1 by 1;", 3);
        fault("I told behind", 3, LAKE + "deed d of |v needs 1 worth 1 by 1;village v miles 1;");
        fault("I none such", 3, VILLAGE + "deed d of |w needs 1 worth 1 by 1;");
        fault("I none of what is asked: a BROOK", 3, LAKE + "brook b gives 1 black 1;deed d of |b needs 1 worth 1 by 1;");
        fault("I none of what is asked: the DEED", 3, VILLAGE + "deed d of |d needs 1 worth 1 by 1;");
        fault("I none of what is asked: another DEED", 3, VILLAGE + "deed d of v needs 1 worth 1 by 1;deed e of |d needs 1");
        fault("I without VILLAGES", 3, LAKE + "deed d of |v");
    }

    private static void blanksWhereOneLikes() {
        good("I blanks", "\n  lake\nhas\n5 \n black 6 holds 9 ;\n\nbrook b\ngives 1 black 1\n;  ", 2);
        good("I without blanks", "lake has 5 black 6 holds 9;may[1+2*3/4-5<6]and(7)>8 or not all;draws min(1,max(2,3));", 3);
        for (int octet = 0; octet < 256; octet++) {
            InkLake x = new InkLake();
            Lakes.shore(x, "lake" + (char) octet + " has 5 black 6 holds 9;");
            boolean blank = octet == 10 || octet == 32;
            boolean letter = octet >= 'a' && octet <= 'z';
            Check.eq("I blanks are 10 and 32: " + octet, x.fault(0), blank ? 0 : 1);
            Check.eq("I blanks are 10 and 32, the place: " + octet, x.fault(1), blank ? NONE : letter ? 0 : 4);
        }
    }

    private static void blanksThatAreNeeded() {
        fault("I words and words", 1, "|lakehas 5 black 6 holds 9;");
        fault("I words and numbers", 1, "lake has|5 black 6 holds 9;");
        fault("I numbers and words", 1, "lake has 5|black 6 holds 9;");
        fault("I numbers and numbers", 1, LAKE + "draws 1 |2;");
        fault("I a NAME and a number", 1, LAKE + "village v|1 miles 1;");
        fault("I words and numbers in a SUM", 1, LAKE + "draws needs+miles|2;");
        askFault("IV words and numbers", 1, "most|1");
        askFault("IV numbers and words", 1, "often 1<2|or all");
        good("I one blank is enough", LAKE + "draws\n1;", 2);
    }

    private static void bytesThatNoTextHas() {
        for (int octet = 0; octet < 256; octet++) {
            InkLake x = new InkLake();
            Lakes.shore(x, LAKE + "dries 1;" + (char) octet);
            boolean blank = octet == 10 || octet == 32;
            Check.eq("I a byte that begins no STATEMENT: " + octet, x.fault(0), blank ? 0 : 1);
            Check.eq("I a byte that begins no STATEMENT, its place: " + octet, x.fault(1), blank ? NONE : LAKE.length() + 8);
        }
        fault("I large letters", 1, "|LAKE has 5 black 6 holds 9;");
    }

    private static void tooSoonAnEnd() {
        String whole = "lake has 5 black 6 holds 9;brook b gives 1 black 1;village v miles 1;deed d of v needs 1 worth 1 by 1;"
                + "draws (1);fades min(1,2);may [all];dries 1;reads 1;drought 1;";
        int statements = 0;
        for (int end = 0; end <= whole.length(); end++) {
            String text = whole.substring(0, end);
            InkLake x = new InkLake();
            int due = NONE;
            if (text.endsWith(";")) {
                statements++;
                due = statements;
            }
            Check.eq("I an end too soon: " + text, Lakes.shore(x, text), due);
            Check.eq("I an end too soon, fault: " + text, x.fault(0), due == NONE ? 1 : 0);
            boolean halfAWord = end > 0 && end < whole.length() && isLetter(whole.charAt(end - 1)) && isLetter(whole.charAt(end));
            int from = end;
            while (halfAWord && isLetter(whole.charAt(from - 1))) {
                from--;
                if (from == 0) {
                    break;
                }
            }
            Check.eq("I an end too soon, place: " + text, x.fault(1), due == NONE ? from : NONE);
        }
    }

    private static boolean isLetter(char c) {
        return c >= 'a' && c <= 'z';
    }

    private static void theFirstFaultAlongTheText() {
        fault("I the first: 2 ahead of 1", 2, LAKE + "dries |101 #");
        fault("I the first: 1 ahead of 2", 1, LAKE + "dries |# dries 101;");
        fault("I the first: 3 ahead of 2", 3, VILLAGE + "brook |v gives 1000 black 1;");
        fault("I the first: 2 ahead of 3", 2, VILLAGE + "brook b gives |1000 black 1;brook b gives 1 black 1;");
        fault("I the first: 3 of two", 3, VILLAGE + "deed |v of w needs 1");
        fault("I the first: 4 ahead of 1", 4, LAKE + "draws ((((((|(#");
        fault("I the first: 1 ahead of 4", 1, LAKE + "draws ((((((|#(");
        fault("I the first: 5 ahead of 1", 5, LAKE + "draws 1;|draws #");
        fault("I the first: 1 ahead of 5", 1, LAKE + "draws 1;fades |#;draws 1;");
        fault("I the first: 2 at 5 digits' end is none", 1, LAKE + "dries 9999|9;");
    }

    private static String brooks(int count) {
        StringBuilder text = new StringBuilder();
        for (int k = 0; k < count; k++) {
            text.append("brook b").append((char) ('a' + k)).append(" gives ").append(10 + k).append(" black ").append(20 + k).append(';');
        }
        return text.toString();
    }

    private static String villages(int count) {
        StringBuilder text = new StringBuilder();
        for (int k = 0; k < count; k++) {
            text.append("village v").append((char) ('a' + k)).append(" miles ").append(30 + k).append(';');
        }
        return text.toString();
    }

    private static String deeds(int count) {
        StringBuilder text = new StringBuilder("village v miles 1;");
        for (int k = 0; k < count; k++) {
            text.append("deed d").append((char) ('a' + k)).append(" of v needs ").append(40 + k).append(" worth 1 by 1;");
        }
        return text.toString();
    }

    private static void sixBrooks() {
        InkLake x = Lakes.of(LAKE + brooks(6));
        Check.eq("I 6 BROOKS", x.has(0), 6);
        for (int k = 0; k < 6; k++) {
            Check.eq("I 6 BROOKS", x.brook(k, 0), 10 + k);
            Check.eq("I 6 BROOKS", x.brook(k, 1), 20 + k);
        }
        Check.eq("I 6 BROOKS", x.brook(6, 0), NONE);
        fault("I a 7th BROOK", 5, LAKE + brooks(6) + "|brook bg gives 1 black 1;");
        fault("I a 7th BROOK behind blanks", 5, LAKE + brooks(6) + " \n|brook");
        fault("I a 7th BROOK behind others", 5, LAKE + brooks(6) + villages(6) + "dries 1;|brook ba gives 1 black 1;");
        fault("I a faulty 6th BROOK", 2, LAKE + brooks(5) + "brook bg gives |1000 black 1;");
    }

    private static void sixVillages() {
        InkLake x = Lakes.of(LAKE + villages(6));
        Check.eq("I 6 VILLAGES", x.has(1), 6);
        for (int k = 0; k < 6; k++) {
            Check.eq("I 6 VILLAGES", x.miles(k), 30 + k);
        }
        Check.eq("I 6 VILLAGES", x.miles(6), NONE);
        fault("I a 7th VILLAGE", 5, LAKE + villages(6) + "|village vg miles 1;");
        fault("I a 7th VILLAGE", 5, LAKE + villages(6) + brooks(6) + " |village 1");
        fault("I a faulty 6th VILLAGE", 3, LAKE + villages(5) + "village |va miles 1;");
    }

    private static void eightDeeds() {
        InkLake x = Lakes.of(LAKE + deeds(8));
        Check.eq("I 8 DEEDS", x.has(2), 8);
        for (int k = 0; k < 8; k++) {
            Check.eq("I 8 DEEDS", x.deed(k, 1), 40 + k);
        }
        Check.eq("I 8 DEEDS", x.deed(8, 1), NONE);
        fault("I a 9th DEED", 5, LAKE + deeds(8) + "|deed di of v needs 1 worth 1 by 1;");
        fault("I a 9th DEED", 5, LAKE + deeds(8) + "reads 1;\n|deed of");
        fault("I a faulty 8th DEED", 1, LAKE + deeds(7) + "deed |of v needs 1 worth 1 by 1;");
        InkLake all = Lakes.of(LAKE + brooks(6) + deeds(8) + villages(5) + "draws 1;fades 1;may all;dries 1;reads 1;drought 1;");
        Check.eq("I all that there may be", all.has(0) * 100 + all.has(1) * 10 + all.has(2), 668);
    }

    private static void oneDrawsOneFadesOneMay() {
        good("I one each", LAKE + "draws 1;fades 1;may all;", 4);
        fault("I a second draws", 5, LAKE + "draws 1;fades 1;may all;|draws 1;");
        fault("I a second fades", 5, LAKE + "draws 1;fades 1;may all; |fades 1;");
        fault("I a second may", 5, LAKE + "draws 1;fades 1;may all;\n|may all;");
        good("I dries, reads, drought as often as one likes", LAKE + "dries 1;dries 1;reads 1;reads 1;drought 1;drought 1;", 7);
    }

    private static String statements(int count) {
        StringBuilder text = new StringBuilder(LAKE);
        for (int k = 1; k < count; k++) {
            text.append("dries 1;");
        }
        return text.toString();
    }

    private static void seventyStatements() {
        good("I 69 STATEMENTS", statements(69), 69);
        good("I 70 STATEMENTS", statements(70), 70);
        good("I 70 STATEMENTS and blanks", statements(70) + " \n ", 70);
        good("I 70 STATEMENTS of all sorts", statements(46) + brooks(6) + deeds(8) + villages(5) + "draws 1;fades 1;may all;reads 1;", 70);
        fault("I a 71st STATEMENT", 5, statements(70) + "|dries 1;");
        fault("I a 71st STATEMENT, whatever stands there", 5, statements(70) + "|x");
        fault("I a 71st STATEMENT, whatever stands there", 5, statements(70) + "|;");
        fault("I a 71st STATEMENT, whatever stands there", 5, statements(70) + "\n|\0");
        fault("I a 71st STATEMENT, whatever stands there", 5, statements(70) + "|lake has 1 black 1 holds 1;");
        fault("I a 71st STATEMENT, whatever stands there", 5, statements(70) + "  |5");
        fault("I a 70th that is none", 1, statements(69) + "|x");
        fault("I a 70th that is none", 1, statements(69) + "dries 1|");
    }

    private static String times(int count, String part) {
        return part.repeat(count);
    }

    private static void sixOpenInSums() {
        for (String rule : new String[] {"draws ", "fades ", "may 1<", "may "}) {
            String behind = rule.equals("may ") ? ">0;" : ";";
            good("I 6 open (", LAKE + rule + times(6, "(") + "1" + times(6, ")") + behind, 2);
            fault("I the 7th (", 4, LAKE + rule + times(6, "(") + "|(1" + times(7, ")") + behind);
            good("I 6 open min (", LAKE + rule + times(6, "min(") + "1" + times(6, ",2)") + behind, 2);
            fault("I the 7th ( of min", 4, LAKE + rule + times(6, "max(") + "min|(1,2)" + times(6, ",2)") + behind);
            good("I the second SUM in min", LAKE + rule + times(6, "min(2,") + "1" + times(6, ")") + behind, 2);
            fault("I the second SUM in min", 4, LAKE + rule + times(6, "min(2,") + "|(1" + times(7, ")") + behind);
            fault("I the 7th ( is looked at alone", 4, LAKE + rule + times(6, "(") + "|(#");
            fault("I the 7th ( at the text's end", 4, LAKE + rule + times(6, "(") + "|(");
            fault("I six open at the text's end", 1, LAKE + rule + times(6, "(") + "|");
        }
    }

    private static void sixOpenInTests() {
        good("I 6 open [", LAKE + "may " + times(6, "[") + "all" + times(6, "]") + ";", 2);
        fault("I the 7th [", 4, LAKE + "may " + times(6, "[") + "|[all" + times(7, "]") + ";");
        good("I 6 open not", LAKE + "may " + times(6, "not ") + "all;", 2);
        fault("I the 7th not", 4, LAKE + "may " + times(6, "not ") + "|not all;");
        good("I 6 open of all sorts", LAKE + "may not[not[(min(1,2))>0]];", 2);
        fault("I the 7th of all sorts: (", 4, LAKE + "may not[not[(min(|(1),2))>0]];");
        fault("I the 7th of all sorts: [", 4, LAKE + "may not[not[not[|[all]]]];");
        fault("I the 7th of all sorts: not", 4, LAKE + "may [[[[[[|not all]]]]]];");
        fault("I not is open to its FACT's end", 4, LAKE + "may not(1)>(((((|(1))))));");
        good("I not is open to its FACT's end", LAKE + "may not(1)>(((((1)))));", 2);
        fault("I a word that not begins is none", 1, LAKE + "may not not not not not not |nota;");
    }

    private static void sixOpenInQuestions() {
        askGood("IV 6 open (", "most " + times(6, "(") + "7" + times(6, ")"), 7);
        askFault("IV the 7th (", 4, "most " + times(6, "(") + "|(7" + times(7, ")"));
        askGood("IV 6 open min (", "most " + times(6, "min(") + "7" + times(6, ",8)"), 7);
        askFault("IV the 7th ( of max", 4, "most " + times(6, "min(") + "max|(7,8)" + times(6, ",8)"));
        askGood("IV 6 open [", "often " + times(6, "[") + "all" + times(6, "]"), 1);
        askFault("IV the 7th [", 4, "often " + times(6, "[") + "|[all" + times(7, "]"));
        askGood("IV 6 open not", "often " + times(6, "not ") + "all", 1);
        askFault("IV the 7th not", 4, "often " + times(6, "not ") + "|not all");
        askGood("IV 6 open by", "most " + times(6, "by ") + "0", 0);
        askFault("IV the 7th by", 4, "most " + times(6, "by ") + "|by 0");
        askGood("IV 6 open of all sorts", "often not[not[by(0)=1]]", 1);
        askGood("IV 6 open of all sorts", "often not[not[by by 1=1]]", 1);
        askFault("IV the 7th of all sorts: by", 4, "often not[not[by(|by 1)=1]]");
        askFault("IV the 7th of all sorts: by", 4, "often [[[[[[|by 0=1]]]]]]");
        askFault("IV by is open to its PART's end", 4, "most by(((((|(1))))))");
        askGood("IV by is open to its PART's end", "most by(((((0)))))", 1);
    }

    private static void closedOnesAreNotOpen() {
        String six = times(6, "(") + "1" + times(6, ")");
        good("I not at once", LAKE + "draws " + six + "+" + six + "*" + six + ";fades " + six + ";may " + six + "=" + six + ";", 4);
        good("I not at once", LAKE + "may " + times(6, "not ") + "all and " + times(6, "not ") + "all or " + times(6, "[") + "all"
                + times(6, "]") + ";", 2);
        askGood("IV not at once", "most " + six + "-" + six + "+" + times(6, "by ") + "9+" + times(6, "by ") + "9", 2);
        askGood("IV not at once", "often " + times(6, "not ") + "all and " + times(6, "not ") + "all", 1);
        askGood("IV by ends with its PART", "most by 0+by 0+by 0+by 0+by 0+by 0+by 0+by 0", 8);
    }

    private static void theSeventhBehindClosedOnes() {
        String[] closed = {"not all", "not not not all", "[all]", "[[[all]]]", "not[not all]", "(1)=1", "((1))=((1))", "min(1,2)<max(1,2)"};
        String[] openers = {"not ", "[", "(", "min("};
        for (String ahead : closed) {
            good("I six behind closed ones", LAKE + "may " + ahead + " or " + times(6, "not ") + "all;", 2);
            askGood("IV six behind closed ones", "often " + ahead + " or " + times(6, "not ") + "all", 1);
            for (String joint : new String[] {" and ", " or "}) {
                for (String opener : openers) {
                    String seven = ahead + joint + times(6, opener) + (opener.equals("min(") ? "min|(" : "|" + opener) + "1";
                    fault("I the 7th behind closed ones", 4, LAKE + "may " + seven);
                    askFault("IV the 7th behind closed ones", 4, "often " + seven);
                }
                askFault("IV the 7th by behind closed ones", 4, "often " + ahead + joint + times(6, "by ") + "|by 0=1");
            }
        }
        for (String ahead : new String[] {"by 0=1", "by by 0=0", "by(by 0)=0"}) {
            askFault("IV the 7th by behind closed ones", 4, "often " + ahead + " and " + times(6, "by ") + "|by 0=1");
            askFault("IV the 7th not behind closed ones", 4, "often " + ahead + " or " + times(6, "not ") + "|not all");
        }
        for (String ahead : new String[] {"(1)", "((1))", "min(1,2)", "max((1),2)"}) {
            for (String sign : new String[] {"+", "-", "*", "/"}) {
                String seven = ahead + sign + times(6, "(") + "|(1";
                fault("I the 7th behind closed ones", 4, LAKE + "draws " + seven);
                fault("I the 7th behind closed ones", 4, LAKE + "fades " + seven);
                askFault("IV the 7th behind closed ones", 4, "most " + seven);
            }
        }
    }

    private static String filled(String text, int length) {
        return text + times(length - text.length(), " ");
    }

    private static void aFullTape() {
        good("2 a SHORE of 1600 bytes", filled("lake has 5 black 6 holds 9", 1599) + ";", 1);
        good("2 a SHORE of 1600 bytes", filled(LAKE, 1600), 1);
        fault("2 a SHORE of 1600 bytes that ends too soon", 1, filled("lake has 5 black 6 holds 9", 1600) + "|");
        fault("2 a FAULT at the last byte", 1, filled(LAKE, 1599) + "|x");
        fault("2 a 5th digit at the last byte", 1, filled("lake has 5 black", 1595) + "0000|0");
        askGood("2 a QUESTION of 1600 bytes", "most 0" + times(797, "+1"), 797);
        askFault("2 a FAULT at the last byte", 1, "most 0" + times(796, "+1") + "+|+");
        askFault("2 a QUESTION of 1600 bytes that ends too soon", 1, filled("most 0+", 1600) + "|");
        InkLake x = Lakes.of(DEED + "draws 0" + times((1599 - DEED.length() - 7) / 2, "+1") + ";");
        Check.eq("2 a SUM over a full tape", x.deed(0, 7), (1599 - DEED.length() - 7) / 2);
        String deepest = "draws 0" + times(100, "+((((((1))))))") + ";";
        Check.eq("2 a deep SUM over a long tape", Lakes.of(DEED + deepest).deed(0, 7), 100);
    }

    private static void anEmptyTape() {
        fault("4 without a STATEMENT", 1, "|");
        fault("4 without a STATEMENT", 1, " |");
        fault("4 without a STATEMENT", 1, times(1600, "\n") + "|");
        askFault("IV an empty QUESTION", 1, "|");
        askFault("IV an empty QUESTION", 1, times(1600, " ") + "|");
    }

    private static void questionsEnd() {
        askFault("IV what stands behind it", 1, "often all |all");
        askFault("IV what stands behind it", 1, "often all|;");
        askFault("IV what stands behind it", 1, "most 1 |first");
        askFault("IV what stands behind it", 1, "most 1 |)");
        askFault("IV an unknown word at its first byte", 1, "|mosty 1");
        askFault("IV an unknown word at its first byte", 1, "most |abcdefghij");
        askFault("IV an unknown word at its first byte", 1, "most 1+|d");
        askFault("IV an unknown word at its first byte", 1, "often |v=1");
        askGood("IV blanks behind it", "often all \n ", 1);
        for (String asked : new String[] {"first", "last", "often", "total", "most", "least"}) {
            askFault("IV the text's length", 1, asked + "|");
            askFault("IV a word that ends too soon", 1, "|" + asked.substring(0, asked.length() - 1));
        }
    }

    private static void partsOfEachText() {
        String[] parts = {"needs", "worth", "miles", "season", "level", "dark", "ink", "age", "number", "term", "draws"};
        String[] allowed = {"dfmq", "dfmq", "dfmq", "dfmq", "dm", "dm", "fq", "fq", "q", "q", "q"};
        for (int k = 0; k < parts.length; k++) {
            part("d", allowed[k], "draws ", parts[k], ";");
            part("f", allowed[k], "fades ", parts[k], ";");
            part("m", allowed[k], "may ", parts[k], "<1;");
            InkLake x = Lakes.of(DEED);
            boolean good = Lakes.ask(x, "most " + parts[k]) != InkLake.NOTHING;
            Check.eq("IV PART " + parts[k], good ? 1 : 0, allowed[k].contains("q") ? 1 : 0);
        }
        part("d", "", "draws ", "by 0", ";");
        part("f", "", "fades ", "by 0", ";");
        part("m", "", "may ", "by 0", "=1;");
    }

    private static void part(String rule, String allowed, String ahead, String part, String behind) {
        if (allowed.contains(rule)) {
            good("I PART", LAKE + ahead + part + behind, 2);
        } else {
            fault("I no PART", 1, LAKE + ahead + "|" + part + behind);
        }
    }
}
