/** What is a SHORE, what is none, and where its first FAULT is (promises 4 and 5, Terms I). */
public final class GrammarTest {
    private static final String LAKE = "lake has 5 black 6 holds 9;";
    private static final String DEED = LAKE + "village v miles 1;deed d of v needs 1 worth 1 by 1;";

    public static void main(String[] args) {
        lakes();
        statements();
        names();
        numbers();
        blanks();
        sums();
        tests();
        opens();
        tooMany();
        good();
        Check.finish();
    }

    /** The mark | in the text tells where the FAULT is due. */
    private static void fault(int kind, String marked) {
        int place = marked.indexOf('|');
        String text = marked.substring(0, place) + marked.substring(place + 1);
        InkLake x = new InkLake();
        Check.eq("shore: " + marked, Lakes.shore(x, text), InkLake.NONE);
        Check.eq("fault: " + marked, x.fault(0), kind);
        Check.eq("place: " + marked, x.fault(1), place);
        Check.eq("refused: " + marked, x.status(1), 1);
        Check.eq("no lake: " + marked, x.has(3), 0);
    }

    private static void behindLake(int kind, String marked) {
        fault(kind, LAKE + marked);
    }

    private static void lakes() {
        fault(1, "|");
        fault(1, "  |");
        fault(1, "|brook b gives 1 black 1;");
        fault(1, "|;");
        fault(1, "|la");
        fault(1, "|lakes has 5 black 6 holds 9;");
        fault(1, "|Lake has 5 black 6 holds 9;");
        fault(1, "lake|");
        fault(1, "lake  |");
        fault(1, "lake |have 5");
        fault(1, "lake has |");
        fault(1, "lake has |-1 black 6 holds 9;");
        fault(1, "lake has 1234|5 black 6 holds 9;");
        fault(1, "lake has 5 |holds 9;");
        fault(1, "lake has 5 black |x");
        fault(1, "lake has 5 black 6 holds 9|");
        fault(1, "lake has 5 black 6 holds 9 |,");
        fault(2, "lake has 5 black 6 holds |4;");
        fault(2, "lake has 0 black 6 holds |0;");
        fault(2, "lake has 0 black 6 holds |0000");
        fault(2, "lake has 9999 black 6 holds |9998");
        behindLake(1, "|lake has 5 black 6 holds 9;");
        behindLake(1, " \n|x");
        behindLake(1, "|;");
        behindLake(1, "|7");
        behindLake(1, "|brooks b gives 1 black 1;");
        behindLake(1, "|holds 7;");
    }

    private static void statements() {
        behindLake(1, "brook b |black 1");
        behindLake(1, "brook b gives |black 1");
        behindLake(1, "brook b gives 1 |;");
        behindLake(1, "brook b gives 1 black |;");
        behindLake(1, "brook b gives 1 black 1|");
        behindLake(1, "brook b gives 1 black 1 |brook");
        behindLake(1, "village v |mile 1");
        behindLake(1, "village v miles |v");
        behindLake(1, "village v miles 1|");
        behindLake(1, "village v miles 1;deed d |v");
        behindLake(1, "village v miles 1;deed d of |1");
        behindLake(1, "village v miles 1;deed d of v |worth");
        behindLake(1, "village v miles 1;deed d of v needs |worth");
        behindLake(1, "village v miles 1;deed d of v needs 1 |by");
        behindLake(1, "village v miles 1;deed d of v needs 1 worth |by");
        behindLake(1, "village v miles 1;deed d of v needs 1 worth 1 |;");
        behindLake(1, "village v miles 1;deed d of v needs 1 worth 1 by |;");
        behindLake(1, "village v miles 1;deed d of v needs 1 worth 1 by 1|");
        behindLake(1, "dries |;");
        behindLake(1, "dries 5 |5;");
        behindLake(1, "reads|");
        behindLake(1, "drought |x;");
        behindLake(1, "draws|");
        behindLake(1, "fades |;");
        behindLake(1, "may |;");
        behindLake(1, "may all|");
    }

    private static void names() {
        behindLake(1, "brook |");
        behindLake(1, "brook |;");
        behindLake(1, "brook |5");
        behindLake(1, "brook |B gives 1 black 1;");
        behindLake(1, "brook |of gives 1 black 1;");
        behindLake(1, "brook |drought gives 1 black 1;");
        behindLake(1, "brook |village");
        behindLake(1, "brook drough|s");
        behindLake(1, "brook villag|esx");
        behindLake(1, "brook abcdef|ghij gives 1 black 1;");
        behindLake(1, "brook a|1 gives 1 black 1;");
        behindLake(1, "brook a|B gives 1 black 1;");
        behindLake(1, "village |max miles 1;");
        behindLake(1, "village v miles 1;deed |by of v needs 1");
        behindLake(1, "village v miles 1;deed d of |deed needs 1");
        behindLake(1, "village v miles 1;deed d of abcdef|g needs 1");
        behindLake(3, "brook b gives 1 black 1;brook |b gives 1 black 1;");
        behindLake(3, "brook b gives 1 black 1;village |b miles 1;");
        behindLake(3, "village v miles 1;brook |v gives 1 black 1;");
        behindLake(3, "village v miles 1;deed |v of v needs 1 worth 1 by 1;");
        behindLake(3, "village v miles 1;deed d of v needs 1 worth 1 by 1;brook |d gives 1 black 1;");
        behindLake(3, "village v miles 1;deed d of v needs 1 worth 1 by 1;deed |d of v");
        behindLake(3, "deed d of |v needs 1 worth 1 by 1;village v miles 1;");
        behindLake(3, "deed d of |d needs 1 worth 1 by 1;");
        behindLake(3, "brook b gives 1 black 1;deed d of |b needs 1 worth 1 by 1;");
        behindLake(3, "village vv miles 1;deed d of |v needs 1 worth 1 by 1;");
        behindLake(3, "village v miles 1;deed d of |vv needs 1 worth 1 by 1;");
        behindLake(1, "brook abcdef gives 1 black 1;brook abcdef|g gives 1 black 1;");
    }

    private static void numbers() {
        behindLake(2, "brook b gives |1000 black 1;");
        behindLake(2, "brook b gives 999 black |1000;");
        behindLake(1, "brook b gives 9990|0 black 1;");
        behindLake(1, "brook b gives 0000|1 black 1;");
        behindLake(2, "village v miles |100;");
        behindLake(2, "village v miles |9999");
        behindLake(2, "village v miles 1;deed d of v needs |0 worth 1 by 1;");
        behindLake(2, "village v miles 1;deed d of v needs |1000 worth 1 by 1;");
        behindLake(2, "village v miles 1;deed d of v needs 1 worth |100 by 1;");
        behindLake(2, "village v miles 1;deed d of v needs 1 worth 1 by |100;");
        behindLake(2, "dries |101;");
        behindLake(2, "drought |101;");
        behindLake(1, "reads 1000|0;");
        behindLake(2, "dries |101 and more");
        behindLake(1, "draws 1234|5;");
        behindLake(1, "draws needs+0000|0;");
    }

    private static void blanks() {
        fault(1, "lake has|5 black 6 holds 9;");
        fault(1, "lake has 5|black 6 holds 9;");
        fault(1, "lake has 5 black 6 holds 5|brook");
        fault(2, "lake has 5 black 6 holds |4brook");
        fault(1, "lake|\thas");
        fault(1, "lake|\rhas");
        fault(1, "lake |\u00a0has");
        behindLake(1, "dries|10;");
        behindLake(1, "draws|10;");
        behindLake(1, "may not|5<6;");
        behindLake(1, "may 5<6|or all;");
        behindLake(1, "may all or|5<6;");
        behindLake(1, "may 5<6 and|5<6;");
        behindLake(1, "draws 5|needs;");
        behindLake(1, "draws needs|5;");
        behindLake(1, "draws 5 |5;");
        behindLake(1, "draws min|5;");
        behindLake(1, "village v miles 1;deed d of v needs 1|worth");
    }

    private static void sums() {
        behindLake(1, "draws needs |worth;");
        behindLake(1, "draws needs+|;");
        behindLake(1, "draws needs+|*2;");
        behindLake(1, "draws |-2;");
        behindLake(1, "draws (2|;");
        behindLake(1, "draws (|);");
        behindLake(1, "draws 2|);");
        behindLake(1, "draws min|;");
        behindLake(1, "draws min (1|);");
        behindLake(1, "draws min (1,2|,3);");
        behindLake(1, "draws max (1,|);");
        behindLake(1, "draws |mini(1,2);");
        behindLake(1, "draws 2|>1;");
        behindLake(1, "draws |[2];");
        behindLake(1, "draws |all;");
        behindLake(1, "draws |not;");
        behindLake(1, "draws |ink;");
        behindLake(1, "draws |age;");
        behindLake(1, "draws |number;");
        behindLake(1, "draws |term;");
        behindLake(1, "draws |draws;");
        behindLake(1, "draws |by 1;");
        behindLake(1, "draws |abcdefgh;");
        behindLake(1, "fades |level;");
        behindLake(1, "fades |dark;");
        behindLake(1, "fades |number;");
        behindLake(1, "fades |by 1;");
        behindLake(1, "may |ink>1;");
        behindLake(1, "may |age>1;");
        behindLake(1, "may |term>1;");
        behindLake(1, "may |draws>1;");
    }

    private static void tests() {
        behindLake(1, "may level|;");
        behindLake(1, "may level+|;");
        behindLake(1, "may level>|;");
        behindLake(1, "may level>1|>1;");
        behindLake(1, "may level=|>1;");
        behindLake(1, "may (level|>1);");
        behindLake(1, "may [level|];");
        behindLake(1, "may [all|;");
        behindLake(1, "may [all|);");
        behindLake(1, "may [|];");
        behindLake(1, "may all |not all;");
        behindLake(1, "may all or|;");
        behindLake(1, "may all or |or all;");
        behindLake(1, "may |and all;");
        behindLake(1, "may all |orr all;");
        behindLake(1, "may not|;");
        behindLake(1, "may |alls;");
        behindLake(1, "may all|>1;");
        behindLake(1, "may all |min(1,2)>1;");
    }

    private static void opens() {
        behindLake(4, "draws ((((((|(1)))))));");
        behindLake(4, "draws ((((((|(");
        behindLake(4, "draws min((((((max|(1,2)))))),3);");
        behindLake(4, "may not not not not not not |not all;");
        behindLake(4, "may [[[[[[|[all]]]]]]];");
        behindLake(4, "may not [not [not (|(1))>0]];");
        behindLake(4, "may not not not [[[|not all]]];");
        behindLake(4, "may not not not [[[|[all]]]];");
        behindLake(4, "may not not not [[[|(1)>0]]];");
        behindLake(1, "draws ((((((|[");
        good("draws ((((((1))))))+((((((1))))));", 2);
        good("draws (((((min(1,2))))));", 2);
        good("may not not not not not not all;", 2);
        good("may not not not all and not not not all or not not not all;", 2);
        good("may [[[[[[all]]]]]] and [[[[[[all]]]]]];", 2);
        good("may not not not [[(1)>0]] and not not not [[(1)>0]];", 2);
        good("may not (1)>(((((2)))));", 2);
        behindLake(4, "may not (1)>(((((|(2)))))));");
    }

    private static void tooMany() {
        StringBuilder brooks = new StringBuilder();
        StringBuilder villages = new StringBuilder();
        StringBuilder deeds = new StringBuilder("village v miles 1;");
        for (int k = 0; k < 8; k++) {
            char c = (char) ('a' + k);
            if (k < 6) {
                brooks.append("brook b").append(c).append(" gives 1 black 1;");
                villages.append("village v").append(c).append(" miles 1;");
            }
            deeds.append("deed d").append(c).append(" of v needs 1 worth 1 by 1;");
        }
        good(brooks.toString(), 7);
        good(villages.toString(), 7);
        good(deeds.toString(), 10);
        good(brooks + deeds.toString() + "village a miles 0;village b miles 0;village c miles 0;village d miles 0;village e miles 0;", 21);
        behindLake(5, brooks + "|brook ba gives 1 black 1;");
        behindLake(5, brooks + "|brook");
        behindLake(1, brooks + "|brooks");
        behindLake(5, villages + " |village of");
        behindLake(5, deeds + "|deed 7");
        behindLake(5, "draws 1;|draws 1;");
        behindLake(5, "fades 1; |fades");
        behindLake(5, "may all;|may 7;");
        good("draws 1;fades 1;may all;", 4);
        StringBuilder many = new StringBuilder();
        for (int k = 0; k < 69; k++) {
            many.append("dries 1;");
        }
        good(many.toString(), 70);
        good(many + " \n", 70);
        for (String more : new String[] {"dries 1;", ";", "#", "7", "nonsense", "lake", "brook of"}) {
            behindLake(5, many + "|" + more);
        }
        fault(1, LAKE + many.substring(0, many.length() - 1) + "|");
    }

    private static void good(String text, int statements) {
        InkLake x = new InkLake();
        Check.eq(text, Lakes.shore(x, LAKE + text), statements);
        Check.eq(text, x.fault(0), 0);
        Check.eq(text, x.fault(1), InkLake.NONE);
    }

    private static void good() {
        good("brook first gives 0 black 0;village total miles 0;deed often of total needs 1 worth 0 by 0;", 4);
        good("brook abcdef gives 0001 black 0;", 2);
        good("dries 0;dries 100;reads 0;reads 9999;drought 0;drought 100;", 7);
        good("brook b gives 999 black 999;village v miles 99;deed d of v needs 999 worth 99 by 99;", 4);
        good("\n brook\nb gives\n\n1 black 1\n;\n \n", 2);
        good("draws(1);fades min(ink,age);may[all]or not[all]and(1)>2;", 4);
        good("draws level-dark*season/miles+worth+needs+9999;fades ink+age+needs+worth+miles+season;", 3);
        InkLake x = Lakes.of(DEED + "dries 5;dries 7;reads 3;reads 4;drought 100;drought 0;");
        Check.eq("the last one counts", x.years(1), 0);
        Check.eq("the last one counts", x.has(5), 5);
        x = Lakes.of("lake has 100 black 3 holds 100;village v miles 1;deed d of v needs 1 worth 1 by 1;dries 5;dries 7;reads 3;reads 4;");
        x.write(0);
        Check.eq("the last one counts", x.later(1, 0), 99 - 6);
        Check.eq("the last one counts", x.deed(0, 9), 0);
        x = Lakes.of("lake has 1 black 0 holds 100;village v miles 1;deed d of v needs 1 worth 1 by 1;");
        x.write(0);
        Check.eq("reads 1 without", x.deed(0, 9), 0);
    }
}
