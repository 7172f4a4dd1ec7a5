/** The law's tokens, its grammar and its room: part II, promises 4 and 5. */
public final class LawTextTest {
    private static final Check CHECK = new Check("LawTextTest");
    private static DayTown town = new DayTown();
    private static int reads = 0;

    public static void main(String[] args) {
        goodTexts();
        endsTooSoon();
        wrongTokens();
        noTokens();
        wordsWithOneLetterWrong();
        nesting();
        rules();
        tokens();
        longTexts();
        CHECK.end();
    }

    private static void text(String text, int fault, int place) {
        // A town is good for 512 calls.
        if (++reads % 3 == 0) {
            town = new DayTown();
        }
        CHECK.due("read() of <" + text + ">", Check.readText(town, text), fault);
        CHECK.due("place() of <" + text + ">", town.place(), place);
    }

    private static void good(String text, int rules) {
        text(text, 0, -1);
        CHECK.due("count(3) of <" + text + ">", town.count(3), rules);
    }

    private static void goodTexts() {
        good("", 0);
        good(" \t\r\n ", 0);
        good("ban if 1 == 1;", 1);
        good("grows 1;", 1);
        good("grows1;", 1);
        good("grows\t1\r\n;\n", 1);
        good("grows 1if 1<2;ban if 2<=1;", 2);
        good("grows 1if1<2;", 1);
        good("grows 0000;grows 9999;grows 7;", 3);
        good("ban if 1 + (2 * 3) < 4 and 5 != 6 or 7 <= 8;", 1);
        good("ban if (gives) == (takes);", 1);
        good("grows gives; grows takes; grows feast; grows ahead; grows chain; grows own;"
                + "grows owes; grows all; grows age;", 9);
        good("ban if 1<=1or 1!=1and 1<1;", 1);
    }

    private static void endsTooSoon() {
        text("ban", 1, 3);
        text("ban   ", 1, 6);
        text("ban if", 1, 6);
        text("ban if 1", 1, 8);
        text("ban if 1 ==", 1, 11);
        text("ban if 1 == 1", 1, 13);
        text("ban if 1 == 1 and\n", 1, 18);
        text("grows", 1, 5);
        text("grows 1", 1, 7);
        text("grows 1 if", 1, 10);
        text("grows (1", 1, 8);
        text("grows (1)", 1, 9);
        text("grows 1; ban", 1, 12);
    }

    private static void wrongTokens() {
        text(";", 1, 0);
        text("if", 1, 0);
        text("1", 1, 0);
        text("age", 1, 0);
        text("ban;", 1, 3);
        text("ban 1", 1, 4);
        text("ban grows", 1, 4);
        text("ban if ;", 1, 7);
        text("ban if if", 1, 7);
        text("ban if 1;", 1, 8);
        text("ban if 1 and 1 == 1;", 1, 9);
        text("ban if 1 == 1 == 1;", 1, 14);
        text("ban if 1 < 2 < 3;", 1, 13);
        text("ban if (1 < 2);", 1, 10);
        text("ban if 1 == 1 if 1 == 1;", 1, 14);
        text("ban if 1 == 1 and;", 1, 17);
        text("ban if 1 == 1 and or 1 == 1;", 1, 18);
        text("grows;", 1, 5);
        text("grows if 1 == 1;", 1, 6);
        text("grows 1 if;", 1, 10);
        text("grows 1 1;", 1, 8);
        text("grows 1 age;", 1, 8);
        text("grows 1 == 1;", 1, 8);
        text("grows 1 and 1;", 1, 8);
        text("grows 1 or 1;", 1, 8);
        text("grows (1;", 1, 8);
        text("grows (1 if 1 == 1;", 1, 9);
        text("grows 1);", 1, 7);
        text("grows ();", 1, 7);
        text("grows +1;", 1, 6);
        text("grows -1;", 1, 6);
        text("grows 1 +;", 1, 9);
        text("grows 1 + * 2;", 1, 10);
        text("grows 1 (2);", 1, 8);
        text("grows (1)(2);", 1, 9);
        text("grows (1) 2;", 1, 10);
        text("grows ban;", 1, 6);
        text("grows 1;;", 1, 8);
        text("grows 1; x", 1, 9);
        text("grows 1; 1", 1, 9);
    }

    private static void noTokens() {
        text("grows 12345;", 1, 6);
        text("grows 00000;", 1, 6);
        text("grows ages;", 1, 6);
        text("grows ag;", 1, 6);
        text("grows agez;", 1, 6);
        text("grows zage;", 1, 6);
        text("grows aage;", 1, 6);
        text("grows a;", 1, 6);
        text("grows agegivestakes;", 1, 6);
        text("grows Age;", 1, 6);
        text("GROWS 1;", 1, 0);
        text("growsage;", 1, 0);
        text("banif 1 == 1;", 1, 0);
        text("abcdefghijkl", 1, 0);
        text("ban if 1 = 1;", 1, 9);
        text("ban if 1 === 1;", 1, 11);
        text("ban if 1 ! 1;", 1, 9);
        text("ban if 1 !== 1;", 1, 11);
        text("ban if 1 <== 1;", 1, 11);
        text("ban if 1 < = 1;", 1, 11);
        text("ban if 1 = = 1;", 1, 9);
        text("ban if 1 > 1;", 1, 9);
        text("ban if 1 =", 1, 9);
        text("ban if 1 !", 1, 9);
        text("grows 1 / 2;", 1, 8);
        text("grows 1.;", 1, 7);
        text("grows 1, 2;", 1, 7);
        text("grows 1\u000b;", 1, 7);
        text("grows 1\f;", 1, 7);
        text("grows 1\u0000;", 1, 7);
        text("grows 1\u007f;", 1, 7);
        text("grows 1\u00a0;", 1, 7);
        text("grows 1; \u00e9", 1, 9);
    }

    private static void wordsWithOneLetterWrong() {
        String[] words = {"gives", "takes", "feast", "ahead", "chain", "own", "owes", "all", "age"};
        for (String word : words) {
            for (int i = 0; i < word.length(); i++) {
                text("grows " + word.substring(0, i) + "x" + word.substring(i + 1) + ";", 1, 6);
                text("grows " + word.substring(0, i) + ";", 1, 6);
            }
            text("grows " + word + "x;", 1, 6);
            text("grows x" + word + ";", 1, 6);
        }
        text("xan if 1==1;", 1, 0);
        text("bxn if 1==1;", 1, 0);
        text("bax if 1==1;", 1, 0);
        text("ban xf 1==1;", 1, 4);
        text("ban ix 1==1;", 1, 4);
        text("ban if 1==1 xr 1==1;", 1, 12);
        text("ban if 1==1 ox 1==1;", 1, 12);
        text("ban if 1==1 xnd 1==1;", 1, 12);
        text("ban if 1==1 axd 1==1;", 1, 12);
        text("ban if 1==1 anx 1==1;", 1, 12);
        text("xrows 1;", 1, 0);
        text("growx 1;", 1, 0);
    }

    private static void nesting() {
        good("grows ((((((1))))));", 1);
        good("grows ((((((1))))))+(1)*((1));", 1);
        good("grows (1)+(1)+(1)+(1)+(1)+(1)+(1)+(1);", 1);
        good("ban if ((((((1)))))) < ((((((1))))));", 1);
        text("grows (((((((1)))))));", 2, 12);
        text("grows ((((((1+ (", 2, 15);
        text("grows ((((((1(", 1, 13);
        text("grows ((((((;", 1, 12);
        text("grows 1;ban if ((((((1)))))) < (((((((1;", 2, 37);
    }

    private static void rules() {
        String sixteen = "grows 1;".repeat(16);
        good(sixteen, 16);
        good(sixteen + "  ", 16);
        text(sixteen + "grows 1;", 2, 128);
        text(sixteen + "  ban if 1 == 1;", 2, 130);
        text(sixteen + "ban", 2, 128);
        text(sixteen + "grows ! ;", 2, 128);
        text(sixteen + ";", 1, 128);
        text(sixteen + "growl", 1, 128);
        text("grows 1!" + sixteen, 1, 7);
        text("ban if 1==1;".repeat(17), 2, 192);
    }

    private static void tokens() {
        String most = "grows 1;grows 1" + "+1".repeat(197) + ";";
        good(most, 2);
        good(most + " \n", 2);
        text(most + "ban", 2, 410);
        text(most + " grows", 2, 411);
        text(most + "x", 1, 410);
        text(most + ";", 1, 410);
        String long400 = "grows 1" + "+1".repeat(199);
        text(long400 + ";", 2, 405);
        text(long400 + "+1;", 2, 405);
        text(long400, 1, 405);
        text(long400 + " 1;", 1, 406);
        text(long400 + " !", 1, 406);
        text("grows (" + "1+".repeat(198) + "1 ", 1, 405);
        text("grows (" + "1+".repeat(198) + "1 );", 2, 406);
        text("grows (" + "1+".repeat(198) + "1 ;", 1, 405);
        text("grows " + "1+".repeat(199) + "((", 2, 405);
    }

    private static void longTexts() {
        text("ban if" + " ".repeat(1994), 1, 2000);
        good(" ".repeat(1992) + "grows 1;", 1);
        text(" ".repeat(1993) + "grows 1", 1, 2000);
        text("a".repeat(2000), 1, 0);
        text("1".repeat(2000), 1, 0);
        text("grows " + "4294967297".repeat(10) + ";", 1, 6);
        text("(".repeat(2000), 1, 0);
    }
}
