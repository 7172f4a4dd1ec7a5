/** Part II and promises 2 to 5, 22 and 23: each sentence that names an edge, one by one. */
public final class EdgeLawTest {
    private static final Check CHECK = new Check("EdgeLawTest");
    private static final int LEAST = Integer.MIN_VALUE;
    private static final int MOST = Integer.MAX_VALUE;
    private static final int BLANKS = 0x20202020;

    public static void main(String[] args) {
        feedUpTo2000();
        highestByteFirst();
        backToNone();
        readEmptiesTheTape();
        placeOfTheLatest();
        textOf2000Bytes();
        blanks();
        longestTokens();
        wordsAndInts();
        tokensThatAreNone();
        syntaxByPlace();
        leastOfOnePlace();
        room401();
        room17();
        room7();
        faultChangesNothing();
        nothingStaysOfAFault();
        lawsOneAfterAnother();
        rulesFrom0To15();
        valuesOfVars();
        valuesThatWrap();
        heldTo0And100();
        relations();
        andBeforeOr();
        bansAndGrowths();
        CHECK.end();
    }

    private static void feedUpTo2000() {
        DayTown town = new DayTown();
        CHECK.sentence("2: Twenty bytes come behind the tape: how many it has");
        for (int i = 1; i <= 99; i++) {
            CHECK.due("feed " + i, town.feed(BLANKS, BLANKS, BLANKS, BLANKS, BLANKS), 20 * i);
        }
        CHECK.due("feed to 2000", town.feed(BLANKS, BLANKS, BLANKS, BLANKS, 0x20202021), 2000);
        CHECK.sentence("2: NONE, and nothing comes, if it would have more than 2,000");
        CHECK.none("feed of a full one", town.feed(0, 0, 0, 0, 0));
        CHECK.due("count 4", town.count(4), 2000);
        for (int less = 1; less < 20; less++) {
            town.back(1);
            CHECK.none("feed of " + (2000 - less), town.feed(0, 0, 0, 0, 0));
            CHECK.due("count 4", town.count(4), 2000 - less);
        }
        town.back(1);
        CHECK.due("feed of 1980", town.feed(BLANKS, BLANKS, BLANKS, BLANKS, 0x20202021), 2000);
        CHECK.due("read", town.read(), 1);
        CHECK.due("nothing came but the last", town.place(), 1999);
    }

    private static void highestByteFirst() {
        CHECK.sentence("2: Twenty bytes, the highest of a first");
        // "grows 12+34;" and eight blanks, one byte at a time from each place of the five.
        int[] fours = {0x67726F77, 0x73203132, 0x2B33343B, BLANKS, BLANKS};
        DayTown town = Check.townOf(2);
        town.loan(0, 0, 0, 9, 1);
        town.feed(fours[0], fours[1], fours[2], fours[3], fours[4]);
        CHECK.due("read", town.read(), 0);
        CHECK.due("12 and 34", town.owes(1, 0, 0, 1), 46);
        for (int at = 0; at < 20; at++) {
            int[] some = {BLANKS, BLANKS, BLANKS, BLANKS, BLANKS};
            some[at / 4] = BLANKS ^ (0xDF << 24 - 8 * (at % 4));
            town.feed(some[0], some[1], some[2], some[3], some[4]);
            CHECK.due("read of a byte 255 at " + at, town.read(), 1);
            CHECK.due("its place", town.place(), at);
        }
    }

    private static void backToNone() {
        CHECK.sentence("3: NONE, and nothing goes, if it has not so many, or n is below 0");
        DayTown town = new DayTown();
        CHECK.due("back 0 of none", town.back(0), 0);
        CHECK.none("back 1 of none", town.back(1));
        Check.feedText(town, "grows 1;grows 2;grows 3");
        for (int n : new int[] {-1, 24, LEAST, MOST}) {
            CHECK.none("back " + n, town.back(n));
            CHECK.due("count 4", town.count(4), 23);
        }
        CHECK.sentence("3: The last n bytes of the tape go: how many it has");
        CHECK.due("back 0", town.back(0), 23);
        CHECK.due("back 7", town.back(7), 16);
        CHECK.due("read", town.read(), 0);
        CHECK.due("two rules", town.count(3), 2);
        Check.feedText(town, "grows 1;");
        CHECK.due("back of all", town.back(8), 0);
        CHECK.none("back 1 more", town.back(1));
        CHECK.due("count 4", town.count(4), 0);
    }

    private static void readEmptiesTheTape() {
        CHECK.sentence("4: The tape, which is empty then, is THE LAW");
        DayTown town = new DayTown();
        CHECK.due("read", Check.readText(town, "grows 1;"), 0);
        CHECK.due("empty", town.count(4), 0);
        CHECK.none("nothing to take back", town.back(1));
        CHECK.due("one rule", town.count(3), 1);
        CHECK.due("read of the empty one", town.read(), 0);
        CHECK.due("no rule", town.count(3), 0);
        CHECK.sentence("4: 0, or the number of its FAULT");
        CHECK.due("syntax", Check.readText(town, "grow"), 1);
        CHECK.due("empty", town.count(4), 0);
        CHECK.due("room", Check.readText(town, "grows ((((((("), 2);
        CHECK.due("empty", town.count(4), 0);
    }

    private static void placeOfTheLatest() {
        CHECK.sentence("5: The byte of the latest read()'s FAULT; NONE without");
        DayTown town = Check.townOf(2);
        CHECK.none("ahead of all", town.place());
        Check.readText(town, "grows 1;");
        CHECK.none("without", town.place());
        Check.readText(town, "ban ban");
        CHECK.due("a fault", town.place(), 4);
        Check.feedText(town, "grows");
        town.back(2);
        town.loan(0, 0, 0, 9, 1);
        town.owes(1, 0, 0, 1);
        CHECK.due("it stays", town.place(), 4);
        CHECK.due("read", town.read(), 1);
        CHECK.due("another", town.place(), 0);
        town.read();
        CHECK.none("without again", town.place());
    }

    private static void text(String text, int fault, int place) {
        text(new DayTown(), text, fault, place);
    }

    private static void text(DayTown town, String text, int fault, int place) {
        String name = text.length() > 60 ? text.substring(0, 60) + ".. " + text.length() : text;
        CHECK.due("read of <" + name + ">", Check.readText(town, text), fault);
        CHECK.due("place of <" + name + ">", town.place(), place);
    }

    private static void textOf2000Bytes() {
        CHECK.sentence("II: a text of at most 2,000 bytes");
        text("grows 1" + " ".repeat(1992) + ";", 0, -1);
        text("grows 1" + " ".repeat(1993), 1, 2000);
        text(" ".repeat(1999) + ";", 1, 1999);
        text(" ".repeat(2000), 0, -1);
        text("", 0, -1);
        text(";", 1, 0);
    }

    private static void blanks() {
        CHECK.sentence("II: blanks (9, 10, 13, 32) between or not");
        DayTown town = new DayTown();
        for (int sign = 0; sign < 256; sign++) {
            if (sign % 32 == 0) {
                town = new DayTown();
            }
            char one = (char) sign;
            if (sign == 9 || sign == 10 || sign == 13 || sign == 32) {
                text(town, one + "grows" + one + "7" + one + ";" + one, 0, -1);
                text(town, "grows 1" + one + "2;", 1, 8);
            } else {
                text(town, one + "grows 7;", 1, 0);
                text(town, "grows 7 " + one + ";", 1, "*+-;".indexOf(one) < 0 ? 8 : 9);
            }
        }
        text("grows7if7<7or7<=7and7!=7;ban if(7)==7;", 0, -1);
        text("grows\n\t\r 7;", 0, -1);
    }

    private static void longestTokens() {
        CHECK.sentence("II: TOKENS, the longest that can be");
        text("ban if 1 <= 1;", 0, -1);
        text("ban if 1 < = 1;", 1, 11);
        text("ban if 1 <== 1;", 1, 11);
        text("ban if 1 === 1;", 1, 11);
        text("ban if 1 !== 1;", 1, 11);
        text("ban if 1 <<1;", 1, 10);
        text("ban if 1 <=<1;", 1, 11);
        text("banif 1<1;", 1, 0);
        text("ban if 1<1 orage<1;", 1, 11);
        text("ban if 1<1or age<1;", 0, -1);
        text("growsown;", 1, 0);
        text("grows own;", 0, -1);
        text("grows 1age;", 1, 7);
        text("grows age1;", 1, 9);
        text("grows 12 34;", 1, 9);
    }

    private static void wordsAndInts() {
        CHECK.sentence("II: WORDS (letters a .. z, 8 at most), INTS (1 to 4 digits)");
        text("grows abcdefgh;", 1, 6);
        text("grows abcdefghi;", 1, 6);
        text("grows chainchain;", 1, 6);
        text("grows ownownowno;", 1, 6);
        text("grows chain`;", 1, 11);
        text("grows chain{;", 1, 11);
        text("grows 1;growss", 1, 8);
        for (String digits : new String[] {"0", "9", "10", "999", "0000", "9999"}) {
            text("grows " + digits + ";", 0, -1);
        }
        for (String digits : new String[] {"10000", "00000", "99999", "000001", "4294967296"}) {
            text("grows " + digits + ";", 1, 6);
            text("grows 1+" + digits, 1, 8);
        }
        DayTown town = Check.townOf(2);
        town.loan(0, 0, 0, 9, 1);
        worth(town, "9999 - 9990", 9);
        worth(town, "1234 - 1200", 34);
        worth(town, "0012", 12);
        worth(town, "0007 + 070 - 7", 70);
    }

    /** What the loan adds by a law that is one growth. */
    private static void worth(DayTown town, String growth, int want) {
        text(town, "grows " + growth + ";", 0, -1);
        CHECK.due("worth of " + growth, town.owes(1, 0, 0, town.count(1)), want);
    }

    private static void tokensThatAreNone() {
        CHECK.sentence("II: A longer one, all else, is no TOKEN (a fault at its first byte)");
        text("ban if 1 = 1;", 1, 9);
        text("ban if 1 ! 1;", 1, 9);
        text("ban if 1 =! 1;", 1, 9);
        text("ban if 1 > 1;", 1, 9);
        text("ban if 1 >= 1;", 1, 9);
        text("ban if 1 =", 1, 9);
        text("ban if 1 !", 1, 9);
        text("Ban if 1 < 1;", 1, 0);
        text("grows a;", 1, 6);
        text("grows 1;  abcdefghijklmnop", 1, 10);
        text("  12345", 1, 2);
        text("  'grows 1;", 1, 2);
    }

    private static void syntaxByPlace() {
        CHECK.sentence("II: FAULTS, the first by its place (a byte; the text's end: its length)");
        text("x", 1, 0);
        text(" x", 1, 1);
        text("grows ! x", 1, 6);
        text("grows 1; ban x ! 12345", 1, 13);
        text("grows (((((( 1 ! (((((((", 1, 15);
        text("grows ((((((( 1 !", 2, 12);
        text("ban", 1, 3);
        text("ban ", 1, 4);
        text("ban\n\n", 1, 5);
        text("grows 1", 1, 7);
        text("grows (1", 1, 8);
        text("ban if 1 <", 1, 10);
        text("ban if 1 <=", 1, 11);
        text("grows 1 if", 1, 10);
        CHECK.sentence("II: 1 SYNTAX: a TOKEN with which no text goes on");
        String[] tokens = {"ban", "if", "grows", "or", "and", "own", "1", ";", "+", "==", "<=", "(", ")"};
        String[] texts = {"", "ban", "ban if", "ban if 1", "ban if (1", "ban if (", "ban if 1 <", "ban if 1 < 1",
            "grows", "grows 1", "grows (1", "grows (1)", "grows 1 if 1 < 1 and"};
        String[] goesOn = {"ban grows", "if", "own 1 (", "+ == <=", "+ )", "own 1 (", "own 1 (", "or and ; +",
            "own 1 (", "if ; +", "+ )", "if ; +", "own 1 ("};
        for (int i = 0; i < texts.length; i++) {
            DayTown town = new DayTown();
            for (String token : tokens) {
                boolean fits = (" " + goesOn[i] + " ").contains(" " + token + " ");
                boolean ends = fits && token.equals(";");
                String text = texts[i] + " " + token;
                int end = text.length();
                text(town, text, ends ? 0 : 1, ends ? -1 : fits ? end : end - token.length());
            }
        }
    }

    private static final String SIXTEEN = "grows 1;".repeat(16);

    private static void leastOfOnePlace() {
        CHECK.sentence("II: of one place the least");
        String tokens400 = "grows 1" + "+1".repeat(199);
        text(tokens400 + ";", 2, 405);
        text(tokens400 + "+", 2, 405);
        text(tokens400 + " 1", 1, 406);
        text(tokens400 + ")", 1, 405);
        text(tokens400 + "=", 1, 405);
        text(tokens400 + "x", 1, 405);
        text(tokens400, 1, 405);
        text(SIXTEEN + "grows", 2, 128);
        text(SIXTEEN + "if", 1, 128);
        text(SIXTEEN + "1", 1, 128);
        text(SIXTEEN + "growsx", 1, 128);
        text("grows ((((((1 (", 1, 14);
        text("grows ((((((1 + (", 2, 16);
    }

    private static void room401() {
        CHECK.sentence("II: 2 ROOM: a 401st TOKEN");
        text("grows 1" + "+1".repeat(198) + ";", 0, -1);
        text("grows 11" + "+1".repeat(198) + " ;", 0, -1);
        String tokens400 = "grows 1;grows 1" + "+1".repeat(197) + ";";
        text(tokens400, 0, -1);
        text(tokens400 + "\r\n", 0, -1);
        text(tokens400 + "\r\nban", 2, 412);
        text(tokens400 + "grows 1;", 2, 410);
        text(tokens400 + "if", 1, 410);
        text("grows (1)" + "+(1)".repeat(98) + ";", 0, -1);
        text("grows (1)" + "+(1)".repeat(99) + ";", 2, 405);
    }

    private static void room17() {
        CHECK.sentence("II: 2 ROOM: a 17th RULE (at its first TOKEN)");
        text(SIXTEEN, 0, -1);
        text(SIXTEEN + " \n ", 0, -1);
        text(SIXTEEN + "grows 1;", 2, 128);
        text(SIXTEEN + "\tban if 1<1;", 2, 129);
        text(SIXTEEN + "ban ban", 2, 128);
        text("ban if 1<1;".repeat(16), 0, -1);
        text("ban if 1<1;".repeat(17), 2, 176);
        text("grows 1" + SIXTEEN, 1, 7);
    }

    private static void room7() {
        CHECK.sentence("II: 2 ROOM: a 7th ( within one another (at it)");
        text("grows ((((((1))))));", 0, -1);
        text("grows (((((((1)))))));", 2, 12);
        text("grows ((((((1)+(1)))))+(1)) + ((((((1))))));", 0, -1);
        text("grows ((((((1)+((1))))))) ;", 2, 16);
        text("grows (1)*(1)*(1)*(1)*(1)*(1)*(1)*(1);", 0, -1);
        text("ban if ((((((1)))))) < (((((( 1 ))))));", 0, -1);
        text("ban if ((((((1)))))) < (((((( ( 1 )))))));", 2, 30);
        text("grows ((((((1))))));grows (((((((1", 2, 32);
    }

    private static void faultChangesNothing() {
        CHECK.sentence("II: A text with a FAULT changes nothing");
        DayTown town = Check.townOf(2);
        town.loan(0, 0, 0, 9, 1);
        text(town, "ban if 2 < 1; grows 33;", 0, -1);
        String[] faulty = {"grows 1;x", "grows 1", "ban if 1 == 1; grows 1; grows", "x", "(",
            "grows (((((((1)))))));", SIXTEEN + "grows 1;"};
        for (String text : faulty) {
            CHECK.due("faulty", Check.readText(town, text) == 0 ? 0 : 1, 1);
            CHECK.due("rules", town.count(3), 2);
            CHECK.due("rule", town.grows(0, 1), 1);
            CHECK.due("owes", town.owes(1, 0, 0, 1), 33);
        }
        CHECK.sentence("II: else it is in place of the one ahead, for all PAPERS");
        text(town, "grows 2;", 0, -1);
        CHECK.due("rules", town.count(3), 1);
        CHECK.due("an earlier paper", town.owes(1, 0, 0, 1), 2);
        text(town, "ban if 1 == 1;", 0, -1);
        CHECK.due("it is banned", town.isVoid(0, 1), 4);
        text(town, "", 0, -1);
        CHECK.due("no rules", town.count(3), 0);
        CHECK.due("by none", town.owes(1, 0, 0, 1), 11);
    }

    /** Signs, ( and relations that wait for what is behind them when the text breaks off. */
    private static void nothingStaysOfAFault() {
        CHECK.sentence("II: A text with a FAULT changes nothing (for the next text)");
        String[] faulty = {"grows 5 +", "grows 5 * 5 - (5 * (5 +", "ban if 5 == 5 and 5 < ", "ban if 5 ",
            "grows ((((((5", "grows ((((((((", "ban", "grows 5 + 5 * 5 - 5 ! 5", "grows 5 if 5 <= 5 or (", "grows"};
        for (String text : faulty) {
            DayTown town = Check.townOf(2);
            town.loan(0, 0, 0, 9, 1);
            for (int times = 0; times < 3; times++) {
                CHECK.due("faulty", Check.readText(town, text) == 0 ? 0 : 1, 1);
                worth(town, "2 + 3 * 4", 14);
                CHECK.due("rules", town.count(3), 1);
                CHECK.due("faulty", Check.readText(town, text) == 0 ? 0 : 1, 1);
                worth(town, "((((((7))))))", 7);
                worth(town, "8", 8);
            }
        }
    }

    private static void lawsOneAfterAnother() {
        CHECK.sentence("II: a text is in place of the one ahead (however many were read)");
        DayTown town = Check.townOf(2);
        town.loan(0, 0, 0, 9, 1);
        String ones = "1" + "+1".repeat(98);
        String more = "2" + "+1".repeat(98);
        for (int i = 0; i < 12; i++) {
            worth(town, ones, 99);
            worth(town, more, 100);
            worth(town, "" + i, i);
        }
    }

    private static void rulesFrom0To15() {
        CHECK.sentence("II: RULES are numbered from 0 on");
        for (int rule = 0; rule < 16; rule++) {
            DayTown town = Check.townOf(2);
            town.loan(0, 0, 0, 9, 1);
            String ahead = "ban if 1 < 1;".repeat(rule);
            text(town, ahead + "grows 7;" + "grows 8;".repeat(15 - rule), 0, -1);
            CHECK.due("grows", town.grows(0, 1), rule);
            CHECK.due("owes", town.owes(1, 0, 0, 1), 7);
            text(town, "grows 1;".repeat(rule) + "ban if 1 <= 1;" + "ban if 1 == 1;".repeat(15 - rule), 0, -1);
            CHECK.due("ban", town.ban(0, 1), rule);
        }
    }

    /** Papers of the first day and the last but one, of the last leaf and of those beside it. */
    private static void valuesOfVars() {
        CHECK.sentence("II: VARS of a LOAN, at their edges");
        DayTown town = Check.townOf(4);
        town.loan(0, 0, 0, 399, 1);
        town.pays(0, 1, 0, 399, 0);
        town.feast(399, true);
        town.loan(0, 3, 3, 399, 0);
        town.loan(398, 0, 0, 399, 1);
        town.loan(0, 1, 1, 398, 2);
        town.loan(0, 2, 1, 398, 3);
        town.loan(0, 0, 0, 200, 3);
        adds(town, 3, "grows gives + 5;", 3);
        adds(town, 3, "grows takes + 5;", 0);
        adds(town, 3, "grows feast + 5;", 1);
        adds(town, 3, "grows ahead - 390 + 5 if 390 < ahead;", 9);
        adds(town, 3, "grows chain + 5;", 0);
        adds(town, 3, "grows own + 5;", 1);
        adds(town, 3, "grows age + 5;", 1);
        adds(town, 4, "grows gives + 5;", 0);
        adds(town, 4, "grows takes + 5;", 1);
        adds(town, 4, "grows ahead + 5 if ahead < 390;", 1);
        adds(town, 4, "grows chain + 5;", 2);
        adds(town, 4, "grows own + 5;", 1);
        adds(town, 4, "grows age - 390 + 5 if 390 < age;", 9);
        adds(town, 5, "grows feast + 5;", 0);
        adds(town, 5, "grows chain + 5;", 0);
        adds(town, 6, "grows own + 5;", 0);
        adds(town, 6, "grows chain + 5;", 1);
        adds(town, 6, "grows gives * 10 + takes + 5;", 23);
        CHECK.sentence("II: owes: what the taker owes the giver so far, all: what it owes all");
        adds(town, 3, "grows owes + all + 5;", 0);
        adds(town, 4, "grows owes + 5 if 398 == age - 1; grows 12;", 2);
        adds(town, 5, "grows owes + all + 5;", 0);
        adds(town, 7, "grows owes + 5;", 0);
        adds(town, 7, "grows all + 5;", 5);
    }

    /** A loan adds 5 more than what is due, by which 0 and what is below it are told apart. */
    private static void adds(DayTown town, int fact, String law, int want) {
        int giver = new int[] {0, 1, 0, 3, 0, 1, 2, 0}[fact];
        int taker = new int[] {1, 0, 0, 0, 1, 2, 3, 3}[fact];
        text(town, law, 0, -1);
        int ahead = town.owes(taker, giver, 398, fact);
        CHECK.due("fact " + fact + " by " + law, town.owes(taker, giver, 398, fact + 1) - ahead, want + 5);
    }

    private static void valuesThatWrap() {
        CHECK.sentence("II: Ints of 32 bits that wrap");
        DayTown town = Check.townOf(2);
        town.loan(0, 0, 0, 9, 1);
        String least = "4096 * 4096 * 128";
        worth(town, least, 0);
        worth(town, least + " - 1", 100);
        worth(town, least + " - 1 + 1", 0);
        worth(town, "0 - (" + least + ")", 0);
        worth(town, "0 - (" + least + ") - 1", 100);
        worth(town, least + " + " + least + " + 9", 9);
        worth(town, least + " * 2 + 8", 8);
        worth(town, "4096 * 4096 * 256 + 7", 7);
        worth(town, "4097 * 4096 * 256 - 4096 * 256 + 6", 6);
        holds(town, least + " < 0", true);
        holds(town, least + " - 1 < 0", false);
        holds(town, "0 < " + least + " - 1", true);
        holds(town, "4096 * 4096 * 256 == 0", true);
        holds(town, "0 - 1 < 0", true);
    }

    private static void holds(DayTown town, String condition, boolean does) {
        text(town, "grows 3 if " + condition + "; grows 4;", 0, -1);
        CHECK.due("rule by " + condition, town.grows(0, 1), does ? 0 : 1);
        text(town, "ban if " + condition + ";", 0, -1);
        CHECK.due("void by " + condition, town.isVoid(0, 1), does ? 4 : 0);
        CHECK.due("ban by " + condition, town.ban(0, 1), does ? 0 : -1);
    }

    private static void heldTo0And100() {
        CHECK.sentence("III: the E of the first grows RULE, held to 0 .. 100");
        DayTown town = Check.townOf(2);
        town.loan(0, 0, 0, 9, 1);
        worth(town, "0 - 9999", 0);
        worth(town, "0 - 1", 0);
        worth(town, "0", 0);
        worth(town, "1", 1);
        worth(town, "99", 99);
        worth(town, "100", 100);
        worth(town, "101", 100);
        worth(town, "9999", 100);
        CHECK.sentence("III: 11 without one");
        text(town, "", 0, -1);
        CHECK.due("no law", town.owes(1, 0, 0, 1), 11);
        text(town, "ban if 1 < 1;", 0, -1);
        CHECK.due("no growth", town.owes(1, 0, 0, 1), 11);
        text(town, "grows 7 if 1 < 1;", 0, -1);
        CHECK.due("none that holds", town.owes(1, 0, 0, 1), 11);
        CHECK.due("its rule", town.grows(0, 1), -2);
    }

    private static void relations() {
        CHECK.sentence("II: REL: E ('==' | '!=' | '<' | '<=') E");
        DayTown town = new DayTown();
        String[] signs = {"==", "!=", "<", "<="};
        for (int left = 4; left <= 6; left++) {
            town = Check.townOf(2);
            town.loan(0, 0, 0, 9, 1);
            boolean[] want = {left == 5, left != 5, left < 5, left <= 5};
            for (int sign = 0; sign < 4; sign++) {
                holds(town, left + signs[sign] + 5, want[sign]);
                holds(town, left + " * 2 - " + left + signs[sign] + "1 + 2 * 2", want[sign]);
            }
        }
    }

    /** All kinds of relations joined with one another, for each truth of them. */
    private static void andBeforeOr() {
        CHECK.sentence("II: COND: ALL {'or' ALL}. ALL: REL {'and' REL}");
        String[] truths = {"4 <= 5", "6 != 7", "3 < 8", "9 == 9"};
        String[] lies = {"5 <= 4", "7 != 7", "8 < 3", "9 == 2"};
        for (int kinds = 0; kinds < 16; kinds++) {
            DayTown town = Check.townOf(2);
            town.loan(0, 0, 0, 9, 1);
            for (int bits = 0; bits < 4; bits++) {
                String one = bits >> 1 == 1 ? truths[kinds / 4] : lies[kinds / 4];
                String other = (bits & 1) == 1 ? truths[kinds % 4] : lies[kinds % 4];
                holds(town, one + " and " + other, bits == 3);
                holds(town, one + " or " + other, bits != 0);
            }
        }
        for (int bits = 0; bits < 8; bits++) {
            DayTown town = Check.townOf(2);
            town.loan(0, 0, 0, 9, 1);
            boolean a = bits >> 2 == 1;
            boolean b = (bits >> 1 & 1) == 1;
            boolean c = (bits & 1) == 1;
            String x = a ? truths[0] : lies[1];
            String y = b ? truths[2] : lies[3];
            String z = c ? truths[1] : lies[2];
            holds(town, x + " or " + y + " and " + z, a || b && c);
            holds(town, x + " and " + y + " or " + z, a && b || c);
            holds(town, x + " and " + y + " and " + z, a && b && c);
            holds(town, x + " or " + y + " or " + z, a || b || c);
        }
    }

    private static void bansAndGrowths() {
        DayTown town = Check.townOf(3);
        town.loan(0, 0, 0, 9, 1);
        town.loan(0, 0, 0, 8, 2);
        town.loan(0, 2, 0, 9, 1);
        town.pays(0, 1, 1, 9, 0);
        town.meeting(0);
        CHECK.sentence("22: -2: none (11)");
        text(town, "grows 1 if takes == 2; ban if takes == 3;", 0, -1);
        CHECK.due("none", town.grows(0, 5), -2);
        CHECK.due("one", town.grows(1, 5), 0);
        CHECK.sentence("22: NONE: it is void, no such one, no LOAN");
        CHECK.none("void", town.grows(2, 5));
        CHECK.none("a payment", town.grows(3, 5));
        CHECK.none("a meeting", town.grows(4, 5));
        CHECK.none("not known by 1", town.grows(1, 1));
        CHECK.none("nor by 0", town.grows(1, 0));
        text(town, "ban if takes == 2; grows 1; ban if gives == 0 and takes == 2;", 0, -1);
        CHECK.sentence("23: The ban RULE by which a LOAN is void (4)");
        CHECK.due("the first", town.ban(1, 5), 0);
        CHECK.none("grows of what is banned", town.grows(1, 5));
        CHECK.sentence("23: NONE: it is not so, no such one");
        CHECK.none("not void", town.ban(0, 5));
        CHECK.none("void by 2", town.ban(2, 5));
        CHECK.none("a payment", town.ban(3, 5));
        CHECK.none("a meeting", town.ban(4, 5));
        CHECK.none("not known by 1", town.ban(1, 1));
        CHECK.none("nor by 0", town.ban(1, 0));
        for (int n : new int[] {-1, 6, LEAST, MOST}) {
            CHECK.none("ban by " + n, town.ban(1, n));
            CHECK.none("grows by " + n, town.grows(0, n));
        }
        for (int fact : new int[] {-1, 5, LEAST, MOST}) {
            CHECK.none("ban of " + fact, town.ban(fact, 5));
            CHECK.none("grows of " + fact, town.grows(fact, 5));
        }
        town.forged(1);
        CHECK.none("forged", town.ban(1, 6));
        CHECK.none("forged", town.grows(1, 6));
        CHECK.due("not by 5", town.ban(1, 5), 0);
    }
}
