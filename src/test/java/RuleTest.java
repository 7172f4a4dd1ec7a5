/** Promises 22 and 23, and what the law's rules are worth. */
public final class RuleTest {
    private static final Check CHECK = new Check("RuleTest");

    public static void main(String[] args) {
        vars();
        ageOfTheTaker();
        worths();
        relations();
        joins();
        firstRuleCounts();
        bans();
        wrongQuestions();
        CHECK.end();
    }

    /** What the last of some papers adds by a law. */
    private static void adds(String law, int want) {
        DayTown town = Check.townOf(4);
        town.feast(31, true);
        town.feast(30, true);
        town.feast(31, false);
        town.loan(1, 3, 3, 30, 2);
        town.loan(2, 1, 1, 30, 2);
        town.loan(3, 2, 3, 30, 0);
        town.loan(5, 0, 3, 30, 2);
        CHECK.due("read() of " + law, Check.readText(town, law), 0);
        int ahead = town.owes(2, 0, 4, 7);
        CHECK.due("owes by " + law, town.owes(2, 0, 5, 7) - ahead, want);
    }

    private static void vars() {
        adds("", 11);
        adds("grows gives + 5;", 5);
        adds("grows takes;", 2);
        adds("grows feast;", 1);
        feasts();
        adds("grows ahead;", 25);
        adds("grows chain;", 2);
        adds("grows own;", 0);
        adds("grows owes;", 0);
        adds("grows all + 3;", 3 + 6 + 3);
        adds("grows age;", 6);
        DayTown town = Check.townOf(4);
        town.loan(5, 3, 3, 9, 1);
        town.loan(5, 3, 3, 10, 1);
        town.feast(9, true);
        one(town, "grows gives;", 3, 6);
        one(town, "grows takes;", 1, 2);
        one(town, "grows feast;", 0, 1);
        one(town, "grows ahead;", 4, 4 + 5);
        one(town, "grows chain;", 0, 0);
        one(town, "grows own;", 1, 2);
        one(town, "grows owes + 5;", 5, 5 + 10);
        one(town, "grows age;", 6, 12);
    }

    private static void feasts() {
        DayTown town = Check.townOf(2);
        Check.readText(town, "grows feast + 3;");
        town.feast(9, true);
        town.loan(5, 0, 0, 9, 1);
        town.loan(6, 0, 0, 10, 1);
        town.loan(9, 0, 0, 11, 1);
        CHECK.due("a feast that is told first", town.owes(1, 0, 5, 2), 4);
        CHECK.due("the day behind it", town.owes(1, 0, 6, 3), 4 + 3);
        CHECK.due("a paper of that day", town.owes(1, 0, 9, 4), 4 + 3 + 3);
        town.feast(9, true);
        town.feast(9, false);
        CHECK.due("no more", town.owes(1, 0, 5, 6), 3);
        CHECK.due("as known ahead", town.owes(1, 0, 5, 5), 4);
        town.feast(9, true);
        CHECK.due("a feast again", town.owes(1, 0, 5, 7), 4);
    }

    private static void one(DayTown town, String law, int first, int both) {
        Check.readText(town, law);
        CHECK.due("first by " + law, town.owes(1, 3, 5, 1), first);
        CHECK.due("both by " + law, town.owes(1, 3, 5, 3), both);
    }

    private static void ageOfTheTaker() {
        DayTown town = new DayTown();
        town.person(0);
        town.person(20);
        town.loan(0, 0, 0, 2, 1);
        town.loan(0, 0, 0, 7, 1);
        town.loan(3, 0, 0, 8, 1);
        Check.readText(town, "grows age;");
        CHECK.due("on day 0", town.owes(1, 0, 0, 3), 21 + 21);
        CHECK.due("on day 3", town.owes(1, 0, 3, 3), 21 + 21 + 25);
        Check.readText(town, "grows age * 4;");
        CHECK.due("held to 100", town.owes(1, 0, 3, 3), 84 + 84 + 100);
    }

    private static void worths() {
        adds("grows 2 + 3 * 4;", 14);
        adds("grows 2 * 3 + 4;", 10);
        adds("grows (2 + 3) * 4;", 20);
        adds("grows 20 - 3 - 2;", 15);
        adds("grows 20 - (3 - 2);", 19);
        adds("grows 20 - 3 * 2 - 1;", 13);
        adds("grows 2 * (3 + (4 - 1) * 2) * 2;", 36);
        adds("grows ((((((7))))));", 7);
        adds("grows 100;", 100);
        adds("grows 101;", 100);
        adds("grows 9999;", 100);
        adds("grows 0;", 0);
        adds("grows 0 - 1;", 0);
        adds("grows 3 - 5 + 4;", 2);
        adds("grows 0000;", 0);
        adds("grows 0042;", 42);
        adds("grows 2 + 3 * 4 if 7 - 2 * 3 == 1;", 14);
        adds("grows 20 - 3 * 4 if 2 + 3 * 2 < 8 or 1 + 1 == 2;", 8);
        adds("grows 4096 * 4096 * 256 + 7;", 7);
        adds("grows 4096 * 4096 * 128;", 0);
        adds("grows 4096 * 4096 * 128 - 1;", 100);
        adds("grows 0 - 4096 * 4096 * 128 - 4096 * 4096 * 128 + 9;", 9);
        adds("grows 1" + "+1".repeat(90) + ";", 91);
    }

    private static void relations() {
        adds("grows 1 if 4 == 4; grows 2;", 1);
        adds("grows 1 if 4 == 5; grows 2;", 2);
        adds("grows 1 if 4 != 5; grows 2;", 1);
        adds("grows 1 if 4 != 4; grows 2;", 2);
        adds("grows 1 if 4 < 5; grows 2;", 1);
        adds("grows 1 if 5 < 5; grows 2;", 2);
        adds("grows 1 if 6 < 5; grows 2;", 2);
        adds("grows 1 if 5 <= 5; grows 2;", 1);
        adds("grows 1 if 6 <= 5; grows 2;", 2);
        adds("grows 1 if 0 - 1 < 0; grows 2;", 1);
        adds("grows 1 if 4096 * 4096 * 128 < 0; grows 2;", 1);
        adds("grows 1 if 4096 * 4096 * 128 - 1 < 0; grows 2;", 2);
        adds("grows 1 if 2 + 1 * 2 == 8 - 2 * 2; grows 2;", 1);
    }

    private static void joins() {
        String[] truth = {"1 == 2", "1 == 1"};
        for (int bits = 0; bits < 8; bits++) {
            int a = bits >> 2;
            int b = bits >> 1 & 1;
            int c = bits & 1;
            String x = truth[a];
            String y = truth[b];
            String z = truth[c];
            adds("grows 1 if " + x + " or " + y + " and " + z + "; grows 0;", a | b & c);
            adds("grows 1 if " + x + " and " + y + " or " + z + "; grows 0;", a & b | c);
            adds("grows 1 if " + x + " and " + y + " and " + z + "; grows 0;", a & b & c);
            adds("grows 1 if " + x + " or " + y + " or " + z + "; grows 0;", a | b | c);
        }
    }

    private static void firstRuleCounts() {
        DayTown town = Check.townOf(3);
        town.loan(0, 0, 0, 5, 1);
        town.loan(1, 0, 0, 6, 1);
        town.loan(1, 0, 0, 7, 2);
        CHECK.due("no law", town.grows(0, 3), -2);
        Check.readText(town, "grows 7 if takes == 2; ban if 1 == 2; grows 0 if owes == 7; grows 5 if owes == 0;");
        CHECK.due("the last", town.grows(0, 3), 3);
        CHECK.due("none", town.grows(1, 3), -2);
        CHECK.due("the first", town.grows(2, 3), 0);
        CHECK.due("5 and 11", town.owes(1, 0, 1, 3), 16);
        CHECK.due("7", town.owes(2, 0, 1, 3), 7);
        Check.readText(town, "grows 4; grows 5;");
        CHECK.due("the first of two", town.grows(1, 3), 0);
        CHECK.due("twice 4", town.owes(1, 0, 1, 3), 8);
        Check.readText(town, "grows 0; grows 5;");
        CHECK.due("the first, though it is worth nothing", town.grows(1, 3), 0);
        CHECK.due("nothing", town.owes(1, 0, 1, 3), 0);
        Check.readText(town, "grows 0 - 9; grows 5;");
        CHECK.due("the first, though it is below nothing", town.grows(1, 3), 0);
        CHECK.due("nothing", town.owes(1, 0, 1, 3), 0);
        CHECK.due("as known by 2", town.grows(1, 2), 0);
        CHECK.due("the law is for all n", town.owes(1, 0, 1, 1), 0);
        Check.readText(town, "");
        CHECK.due("no law again", town.grows(0, 3), -2);
        CHECK.due("twice 11", town.owes(1, 0, 1, 3), 22);
    }

    private static void bans() {
        DayTown town = Check.townOf(3);
        town.loan(0, 0, 0, 5, 1);
        town.loan(1, 0, 0, 6, 1);
        town.loan(1, 0, 0, 7, 2);
        town.loan(1, 1, 0, 7, 2);
        town.pays(2, 1, 1, 8, 0);
        Check.readText(town, "grows 3; ban if 2 < owes; ban if 5 < ahead; ban if takes == 1 and 0 < owes;");
        CHECK.due("ban of 0", town.ban(0, 5), -1);
        CHECK.due("ban of 1: the first that holds", town.ban(1, 5), 1);
        CHECK.due("ban of 2", town.ban(2, 5), 2);
        CHECK.due("ban of 3: void by 2", town.ban(3, 5), -1);
        CHECK.due("ban of a payment", town.ban(4, 5), -1);
        CHECK.due("isVoid of 0", town.isVoid(0, 5), 0);
        CHECK.due("isVoid of 1", town.isVoid(1, 5), 4);
        CHECK.due("isVoid of 2", town.isVoid(2, 5), 4);
        CHECK.due("isVoid of 3", town.isVoid(3, 5), 2);
        CHECK.due("isVoid of the payment", town.isVoid(4, 5), 0);
        CHECK.due("grows of what is void", town.grows(1, 5), -1);
        CHECK.due("grows of what is not", town.grows(0, 5), 0);
        CHECK.due("grows of a payment", town.grows(4, 5), -1);
        CHECK.due("what is banned adds nothing", town.owes(1, 0, 1, 5), 3);
        town.forged(0);
        CHECK.due("no debt, no ban", town.ban(1, 6), -1);
        CHECK.due("no debt, no ban", town.isVoid(1, 6), 0);
        CHECK.due("ban of what is forged", town.ban(0, 6), -1);
        town.feast(6, true);
        Check.readText(town, "ban if feast == 1;");
        CHECK.due("ban by a feast", town.ban(1, 7), 0);
        CHECK.due("not as known ahead", town.ban(1, 6), -1);
    }

    private static void wrongQuestions() {
        DayTown town = Check.townOf(2);
        town.loan(0, 0, 0, 5, 1);
        town.meeting(0);
        town.feast(5, true);
        Check.readText(town, "ban if feast == 1; grows 1;");
        CHECK.due("grows", town.grows(0, 2), 1);
        CHECK.due("ban", town.ban(0, 3), 0);
        for (int n : new int[] {-1, 0, 4, 121, Integer.MIN_VALUE, Integer.MAX_VALUE}) {
            CHECK.due("grows by " + n, town.grows(0, n), -1);
            CHECK.due("ban by " + n, town.ban(0, n), -1);
        }
        for (int fact : new int[] {-1, 1, 2, 3, 120, Integer.MIN_VALUE, Integer.MAX_VALUE}) {
            CHECK.due("grows of " + fact, town.grows(fact, 3), -1);
            CHECK.due("ban of " + fact, town.ban(fact, 3), -1);
        }
    }
}
