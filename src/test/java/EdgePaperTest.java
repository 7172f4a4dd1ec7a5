/** Part III, promises 13 to 21 and 26: each sentence that names an edge, one by one. */
public final class EdgePaperTest {
    private static final Check CHECK = new Check("EdgePaperTest");
    private static final int LEAST = Integer.MIN_VALUE;
    private static final int MOST = Integer.MAX_VALUE;
    private static final int LAST_DAY = 399;

    public static void main(String[] args) {
        oneBehindTheOther();
        forgedGivesNothing();
        giverIsHolderThen();
        dayHasBegun();
        banHolds();
        owesNothing();
        leastReasonOfTwo();
        meetingVoidBy1Alone();
        paymentsOf10();
        isVoidRefuses();
        holderAndChainRefuse();
        owesAndNetRefuse();
        debtsByDays();
        netsAmongEight();
        ringsOfTwoOrMore();
        ringOfEight();
        mostIsMet();
        fewestOfAlike();
        firstOfAlike();
        leastSumIsMet();
        ringsOneByOne();
        ringsAheadOfAll();
        ringAndLeavesRefuse();
        turnedPapers();
        turnedRefuses();
        CHECK.end();
    }

    private static void oneBehindTheOther() {
        CHECK.sentence("III: one behind the other by the DAYS on which they were made, of one DAY by numbers");
        DayTown town = Check.townOf(5);
        town.loan(398, 0, 0, 399, 1);
        CHECK.due("alone", town.holder(0, 399, 1), 1);
        town.loan(397, 0, 0, 399, 2);
        CHECK.due("a day ahead", town.holder(0, 399, 2), 2);
        town.loan(0, 0, 0, 399, 3);
        CHECK.due("on day 0", town.holder(0, 399, 3), 3);
        town.loan(0, 0, 0, 399, 4);
        CHECK.due("on day 0 behind it", town.holder(0, 399, 4), 3);
        town.loan(0, 3, 0, 399, 4);
        town.loan(0, 4, 0, 399, 1);
        town.loan(398, 1, 0, 399, 0);
        town.loan(398, 0, 0, 399, 2);
        int[] reasons = {2, 2, 0, 2, 0, 0, 0, 0};
        int[] chain = {0, 3, 4, 1, 0, 2};
        for (int fact = 0; fact < reasons.length; fact++) {
            CHECK.due("isVoid " + fact, town.isVoid(fact, 8), reasons[fact]);
        }
        for (int i = 0; i < chain.length; i++) {
            CHECK.due("link " + i, town.chain(0, 399, i, 8), chain[i]);
        }
        CHECK.none("link behind the last", town.chain(0, 399, chain.length, 8));
    }

    private static void forgedGivesNothing() {
        CHECK.sentence("III: void: 1 it is FORGED");
        DayTown town = Check.townOf(3);
        town.loan(0, 0, 0, 9, 1);
        town.loan(1, 1, 0, 9, 2);
        town.pays(2, 2, 2, 9, 1);
        town.forged(1);
        town.forged(1);
        CHECK.due("not by 3", town.isVoid(1, 3), 0);
        CHECK.due("by 4", town.isVoid(1, 4), 1);
        CHECK.due("once more", town.isVoid(1, 5), 1);
        CHECK.due("holder", town.holder(0, 9, 4), 1);
        CHECK.due("owes", town.owes(2, 1, LAST_DAY, 4), 0);
        CHECK.due("what paid it", town.isVoid(2, 4), 5);
        CHECK.due("the one beside", town.isVoid(0, 4), 0);
        CHECK.due("forged papers are told still", town.count(2), 3);
    }

    private static void giverIsHolderThen() {
        CHECK.sentence("III: void: 2 the giver is not HOLDER of the LEAF then");
        DayTown town = Check.townOf(3);
        town.loan(1, 1, 0, 9, 2);
        town.loan(2, 0, 0, 9, 1);
        town.loan(3, 0, 0, 9, 2);
        town.loan(3, 1, 0, 9, 0);
        town.loan(4, 0, 0, 9, 2);
        town.loan(5, 1, 0, 9, 2);
        int[] reasons = {2, 0, 2, 0, 0, 2};
        for (int fact = 0; fact < reasons.length; fact++) {
            CHECK.due("isVoid " + fact, town.isVoid(fact, 6), reasons[fact]);
        }
        CHECK.due("in the end", town.holder(0, 9, 6), 2);
    }

    private static void dayHasBegun() {
        CHECK.sentence("III: void: 3 the LEAF's DAY is that of the PAPER, or ahead of it (it has begun)");
        int[][] madeAndDay = {{0, 0}, {1, 0}, {1, 1}, {399, 0}, {399, 398}, {399, 399}, {200, 199}, {200, 200}};
        for (int[] each : madeAndDay) {
            DayTown town = Check.townOf(2);
            town.loan(each[0], 0, 0, each[1], 1);
            town.pays(each[0], 0, 0, each[1], 1);
            CHECK.due("loan " + each[0] + " of " + each[1], town.isVoid(0, 1), 3);
            CHECK.due("pays " + each[0] + " of " + each[1], town.isVoid(1, 2), 3);
            CHECK.due("its holder", town.holder(0, each[1], 2), 0);
            CHECK.due("no debt", town.owes(1, 0, LAST_DAY, 2), 0);
        }
        for (int made : new int[] {0, 1, 200, 398}) {
            DayTown town = Check.townOf(2);
            town.loan(made, 0, 0, made + 1, 1);
            town.pays(made, 1, 1, made + 1, 0);
            CHECK.due("loan " + made + " of the next", town.isVoid(0, 2), 0);
            CHECK.due("pays " + made + " of the next", town.isVoid(1, 2), 0);
            CHECK.due("its holder", town.holder(0, made + 1, 2), 1);
        }
    }

    private static void banHolds() {
        CHECK.sentence("III: void: 4 a LOAN: a ban RULE holds");
        DayTown town = Check.townOf(3);
        Check.readText(town, "grows 9; ban if takes == 1 and 0 < owes;");
        town.loan(0, 0, 0, 9, 1);
        town.loan(0, 0, 0, 8, 1);
        town.pays(0, 1, 1, 7, 0);
        town.loan(0, 0, 0, 6, 1);
        CHECK.due("it does not hold yet", town.isVoid(0, 4), 0);
        CHECK.due("it holds", town.isVoid(1, 4), 4);
        CHECK.due("not for a payment", town.isVoid(2, 4), 0);
        CHECK.due("it holds no more", town.isVoid(3, 4), 0);
        CHECK.due("nothing is given by 4", town.holder(0, 8, 4), 0);
        CHECK.due("nor owed", town.owes(1, 0, 0, 2), 9);
    }

    private static void owesNothing() {
        CHECK.sentence("III: void: 5 a PAYMENT: the giver owes the taker nothing");
        for (int sum = 0; sum <= 2; sum++) {
            DayTown town = Check.townOf(3);
            Check.readText(town, "grows " + sum + ";");
            town.loan(0, 0, 0, 9, 1);
            town.pays(0, 1, 1, 9, 0);
            town.pays(0, 1, 1, 8, 0);
            town.pays(0, 0, 0, 8, 1);
            town.pays(0, 1, 1, 7, 2);
            CHECK.due("one owes " + sum, town.isVoid(1, 5), sum == 0 ? 5 : 0);
            CHECK.due("one owes no more", town.isVoid(2, 5), 5);
            CHECK.due("one is owed", town.isVoid(3, 5), 5);
            CHECK.due("one owes another", town.isVoid(4, 5), 5);
            CHECK.due("the leaf by " + sum, town.holder(1, 9, 5), sum == 0 ? 1 : 0);
            CHECK.due("the other leaf", town.holder(1, 8, 5), 1);
        }
    }

    /** One paper of giver 0 or 1 and day 9 or 5, made on 5, with two reasons and then with all. */
    private static void leastReasonOfTwo() {
        CHECK.sentence("III: the least reason counts");
        String ban = "ban if 1 == 1;";
        String none = "";
        reason("2 and 3", none, true, 1, 5, 2);
        reason("2 and 4", ban, true, 1, 9, 2);
        reason("2 and 5", none, false, 1, 9, 2);
        reason("3 and 4", ban, true, 0, 5, 3);
        reason("3 and 5", none, false, 0, 5, 3);
        reason("2, 3 and 4", ban, true, 1, 4, 2);
        reason("2, 3 and 5", ban, false, 1, 4, 2);
        reason("4 alone", ban, true, 0, 6, 4);
        reason("5 alone", ban, false, 0, 6, 5);
    }

    private static void reason(String name, String law, boolean isLoan, int from, int day, int want) {
        DayTown town = Check.townOf(3);
        Check.readText(town, law);
        int fact = isLoan ? town.loan(5, from, 0, day, 2) : town.pays(5, from, 0, day, 2);
        CHECK.due("of " + name, town.isVoid(fact, 1), want);
        town.forged(fact);
        CHECK.due("1 of 1 and " + name, town.isVoid(fact, 2), 1);
    }

    private static void meetingVoidBy1Alone() {
        CHECK.sentence("III: A MEETING is void by 1 alone");
        DayTown town = new DayTown();
        Check.readText(town, "ban if 0 == 0;");
        town.meeting(0);
        town.meeting(399);
        town.meeting(399);
        town.forged(2);
        for (int n = 1; n <= 4; n++) {
            CHECK.due("on day 0 by " + n, town.isVoid(0, n), 0);
            CHECK.due("on day 399 by " + n, town.isVoid(1, n), n < 2 ? -1 : 0);
            CHECK.due("forged by " + n, town.isVoid(2, n), n < 3 ? -1 : n < 4 ? 0 : 1);
        }
    }

    private static void paymentsOf10() {
        CHECK.sentence("III: By a PAYMENT the giver owes the taker 10 less, at least 0");
        int[] sums = {1, 9, 10, 11, 20, 100};
        int[] left = {0, 0, 0, 1, 10, 90};
        for (int i = 0; i < sums.length; i++) {
            DayTown town = Check.townOf(3);
            Check.readText(town, "grows " + sums[i] + ";");
            town.loan(0, 0, 0, 9, 1);
            town.loan(0, 2, 2, 9, 1);
            town.pays(0, 1, 1, 8, 0);
            CHECK.due("of " + sums[i], town.owes(1, 0, 0, 3), left[i]);
            CHECK.due("ahead of it", town.owes(1, 0, 0, 2), sums[i]);
            CHECK.due("the other way", town.owes(0, 1, 0, 3), 0);
            CHECK.due("to another", town.owes(1, 2, 0, 3), sums[i]);
            CHECK.due("net", town.net(1, 0, 3), left[i] + sums[i]);
        }
    }

    private static void isVoidRefuses() {
        CHECK.sentence("13: NONE: no such one among the first n, no PAPER");
        DayTown town = Check.townOf(2);
        town.loan(0, 0, 0, 9, 1);
        town.feast(9, true);
        town.seen(0, 1, 0, 0);
        town.forged(0);
        town.meeting(0);
        town.loan(0, 0, 0, 8, 1);
        for (int fact = 0; fact < 6; fact++) {
            boolean isPaper = fact == 0 || fact > 3;
            for (int n = 0; n <= 6; n++) {
                int reason = fact == 0 && n > 3 ? 1 : 0;
                CHECK.due("isVoid " + fact + " by " + n, town.isVoid(fact, n), isPaper && fact < n ? reason : -1);
            }
        }
        for (int n : new int[] {-1, 7, 120, 121, LEAST, MOST}) {
            CHECK.none("isVoid by " + n, town.isVoid(0, n));
        }
        for (int fact : new int[] {-1, 6, 120, LEAST, MOST}) {
            CHECK.none("isVoid of " + fact, town.isVoid(fact, 6));
        }
        for (int n = 0; n <= 6; n++) {
            CHECK.due("grows of 5 by " + n, town.grows(5, n), n == 6 ? -2 : -1);
        }
        Check.readText(town, "ban if 0 == 0;");
        for (int n = 0; n <= 6; n++) {
            CHECK.due("ban of 5 by " + n, town.ban(5, n), n == 6 ? 0 : -1);
        }
    }

    private static void holderAndChainRefuse() {
        DayTown town = Check.townOf(3);
        town.loan(0, 0, 0, 9, 1);
        town.loan(0, 1, 0, 9, 0);
        town.loan(0, 0, 0, 9, 1);
        town.loan(0, 2, 0, 9, 0);
        CHECK.sentence("15: The i-th HOLDER of a LEAF, from its PERSON on; NONE: not so many");
        int[] chain = {0, 1, 0, 1};
        for (int n = 0; n <= 4; n++) {
            int links = n < 4 ? n + 1 : 4;
            for (int i = 0; i < 7; i++) {
                CHECK.due("link " + i + " by " + n, town.chain(0, 9, i, n), i < links ? chain[i] : -1);
            }
        }
        CHECK.none("link -1", town.chain(0, 9, -1, 4));
        CHECK.none("link least", town.chain(0, 9, LEAST, 4));
        CHECK.none("link most", town.chain(0, 9, MOST, 4));
        CHECK.sentence("14, 15: NONE: no such ones");
        for (int person : new int[] {-1, 3, 8, LEAST, MOST}) {
            CHECK.none("holder of " + person, town.holder(person, 9, 4));
            CHECK.none("chain of " + person, town.chain(person, 9, 0, 4));
        }
        for (int n : new int[] {-1, 5, 121, LEAST, MOST}) {
            CHECK.none("holder by " + n, town.holder(0, 9, n));
            CHECK.none("chain by " + n, town.chain(0, 9, 0, n));
        }
    }

    private static void owesAndNetRefuse() {
        DayTown town = Check.townOf(3);
        town.loan(0, 0, 0, 9, 1);
        CHECK.sentence("18: NONE: no such ones");
        CHECK.due("owes", town.owes(1, 0, 0, 1), 11);
        CHECK.due("one who owes nothing", town.owes(2, 0, 0, 1), 0);
        for (int person : new int[] {-1, 3, 8, LEAST, MOST}) {
            CHECK.none("owes of " + person, town.owes(person, 0, 0, 1));
            CHECK.none("owes to " + person, town.owes(1, person, 0, 1));
            CHECK.none("owes of and to " + person, town.owes(person, person, 0, 1));
        }
        for (int n : new int[] {-1, 2, 121, LEAST, MOST}) {
            CHECK.none("owes by " + n, town.owes(1, 0, 0, n));
        }
        CHECK.sentence("19: 0 for others");
        CHECK.due("net", town.net(1, 0, 1), 11);
        for (int person : new int[] {-1, 3, 8, LEAST, MOST}) {
            CHECK.due("net of " + person, town.net(person, 0, 1), 0);
        }
        for (int day : new int[] {-1, 400, LEAST, MOST}) {
            CHECK.due("net on " + day, town.net(1, day, 1), 0);
        }
        for (int n : new int[] {-1, 2, 121, LEAST, MOST}) {
            CHECK.due("net by " + n, town.net(1, 0, n), 0);
        }
    }

    private static void debtsByDays() {
        CHECK.sentence("18, 19: behind all PAPERS made on DAYS up to one");
        DayTown town = Check.townOf(2);
        town.loan(398, 0, 0, 399, 1);
        town.loan(0, 0, 0, 9, 1);
        town.loan(5, 0, 0, 10, 1);
        town.pays(5, 1, 1, 10, 0);
        int[] days = {0, 1, 4, 5, 6, 397, 398, 399};
        int[] owed = {11, 11, 11, 12, 12, 12, 23, 23};
        for (int i = 0; i < days.length; i++) {
            CHECK.due("owes on " + days[i], town.owes(1, 0, days[i], 4), owed[i]);
            CHECK.due("net on " + days[i], town.net(1, days[i], 4), owed[i]);
            CHECK.due("net on " + days[i], town.net(0, days[i], 4), -owed[i]);
            CHECK.due("leaves on " + days[i], town.leaves(days[i], 4), owed[i]);
        }
        DayTown late = Check.townOf(2);
        late.loan(5, 1, 1, 9, 0);
        for (int day : new int[] {0, 4, 5, 399}) {
            CHECK.due("net of the one who is owed on " + day, late.net(1, day, 1), day < 5 ? 0 : -11);
            CHECK.due("net of the one who owes on " + day, late.net(0, day, 1), day < 5 ? 0 : 11);
        }
        CHECK.due("on 0 by 1", town.owes(1, 0, 0, 1), 0);
        CHECK.due("on 397 by 1", town.owes(1, 0, 397, 1), 0);
        CHECK.due("on 398 by 1", town.owes(1, 0, 398, 1), 11);
    }

    private static boolean[][] used = new boolean[8][400];

    private static DayTown townOfSums() {
        used = new boolean[8][400];
        DayTown town = Check.townOf(8);
        Check.readText(town, "grows ahead;");
        return town;
    }

    /** By its law a loan made so many days ahead of the leaf's adds as many tenths, 100 at most. */
    private static void owe(DayTown town, int one, int other, int sum) {
        int made = 0;
        while (used[other][made + sum]) {
            made++;
        }
        used[other][made + sum] = true;
        town.loan(made, other, other, made + sum, one);
    }

    private static void ring(DayTown town, int... ring) {
        int n = town.count(1);
        for (int i = 0; i < ring.length; i++) {
            CHECK.due("ring " + i, town.ring(LAST_DAY, n, i), ring[i]);
        }
        CHECK.none("ring behind its last", town.ring(LAST_DAY, n, ring.length));
        CHECK.none("ring 8", town.ring(LAST_DAY, n, 8));
        CHECK.none("ring -1", town.ring(LAST_DAY, n, -1));
    }

    private static void leaves(DayTown town, int want) {
        CHECK.due("leaves", town.leaves(LAST_DAY, town.count(1)), want);
    }

    /** What is owed behind a meeting, as pairs and sums; all others owe nothing. */
    private static void meets(DayTown town, int... left) {
        int n = town.count(1);
        int[] nets = new int[8];
        int all = 0;
        int[][] sums = new int[8][8];
        for (int i = 0; i < left.length; i += 3) {
            sums[left[i]][left[i + 1]] = left[i + 2];
            all += left[i + 2];
        }
        for (int person = 0; person < 8; person++) {
            nets[person] = town.net(person, LAST_DAY, n);
        }
        leaves(town, all);
        town.meeting(LAST_DAY);
        for (int one = 0; one < 8; one++) {
            CHECK.due("net of " + one + " stays", town.net(one, LAST_DAY, n + 1), nets[one]);
            for (int other = 0; other < 8; other++) {
                CHECK.due(one + " owes " + other, town.owes(one, other, LAST_DAY, n + 1), sums[one][other]);
            }
        }
        CHECK.none("no ring is left", town.ring(LAST_DAY, n + 1, 0));
        leaves(town, all);
    }

    private static void netsAmongEight() {
        CHECK.sentence("19: What a PERSON owes all, less what all owe it");
        DayTown town = townOfSums();
        int[] nets = new int[8];
        for (int one = 0; one < 8; one++) {
            for (int other = 0; other < 8; other++) {
                if (one != other) {
                    int sum = 1 + one * one + 5 * other;
                    owe(town, one, other, sum);
                    nets[one] += sum;
                    nets[other] -= sum;
                }
            }
        }
        for (int one = 0; one < 8; one++) {
            CHECK.due("net of " + one, town.net(one, LAST_DAY, 56), nets[one]);
            for (int other = 0; other < 8; other++) {
                int sum = one == other ? 0 : 1 + one * one + 5 * other;
                CHECK.due(one + " owes " + other, town.owes(one, other, LAST_DAY, 56), sum);
            }
        }
    }

    private static void ringsOfTwoOrMore() {
        CHECK.sentence("III: A RING: two PERSONS or more, each of whom owes the next one something");
        DayTown town = townOfSums();
        ring(town);
        leaves(town, 0);
        owe(town, 6, 7, 100);
        ring(town);
        leaves(town, 100);
        owe(town, 7, 5, 100);
        ring(town);
        leaves(town, 200);
        owe(town, 5, 6, 1);
        ring(town, 5, 6, 7);
        leaves(town, 198);
        owe(town, 7, 6, 2);
        ring(town, 6, 7);
        DayTown zero = Check.townOf(2);
        Check.readText(zero, "grows 0;");
        zero.loan(0, 0, 0, 9, 1);
        zero.loan(0, 1, 1, 9, 0);
        ring(zero);
        leaves(zero, 0);
        Check.readText(zero, "grows gives;");
        ring(zero);
        leaves(zero, 1);
        Check.readText(zero, "grows 1;");
        ring(zero, 0, 1);
        leaves(zero, 0);
    }

    private static void ringOfEight() {
        CHECK.sentence("III: A RING of all eight");
        int[] order = {0, 7, 1, 6, 2, 5, 3, 4};
        DayTown town = townOfSums();
        for (int i = 0; i < 8; i++) {
            ring(town);
            owe(town, order[i], order[(i + 1) % 8], 10 + i);
        }
        ring(town, order);
        owe(town, 4, 5, 45);
        owe(town, 5, 4, 39);
        ring(town, order);
        owe(town, 5, 4, 1);
        ring(town, 4, 5);
        // The pair, the eight, and by 5 what both leave of 4, 5 and 3.
        meets(town, 7, 1, 1, 1, 6, 2, 6, 2, 3, 2, 5, 4, 3, 4, 1, 4, 0, 7);
    }

    private static void mostIsMet() {
        CHECK.sentence("III: of all RINGS that by which the most is met together (the least sum times the PERSONS)");
        DayTown town = townOfSums();
        owe(town, 0, 1, 30);
        owe(town, 1, 0, 90);
        ring(town, 0, 1);
        owe(town, 5, 6, 20);
        owe(town, 6, 7, 20);
        owe(town, 7, 5, 19);
        ring(town, 0, 1);
        owe(town, 7, 5, 2);
        ring(town, 0, 1);
        owe(town, 6, 7, 1);
        owe(town, 5, 6, 1);
        ring(town, 5, 6, 7);
        owe(town, 0, 1, 2);
        ring(town, 0, 1);
        meets(town, 1, 0, 58);
    }

    /** Met alike, the fewer persons stand first or last by their numbers. */
    private static void fewestOfAlike() {
        CHECK.sentence("III: of alike ones the one of the fewest PERSONS");
        DayTown town = townOfSums();
        owe(town, 0, 1, 30);
        owe(town, 1, 0, 30);
        for (int i = 2; i < 5; i++) {
            owe(town, i, i == 4 ? 2 : i + 1, 20);
        }
        ring(town, 0, 1);
        DayTown last = townOfSums();
        for (int i = 0; i < 3; i++) {
            owe(last, i, (i + 1) % 3, 20);
        }
        owe(last, 6, 7, 30);
        ring(last, 0, 1, 2);
        owe(last, 7, 6, 30);
        ring(last, 6, 7);
        DayTown six = townOfSums();
        for (int i = 0; i < 6; i++) {
            owe(six, i, (i + 1) % 6, 10);
        }
        owe(six, 2, 0, 20);
        owe(six, 0, 1, 10);
        owe(six, 1, 2, 10);
        ring(six, 0, 1, 2);
        owe(six, 6, 7, 30);
        owe(six, 7, 6, 29);
        ring(six, 0, 1, 2);
        owe(six, 7, 6, 1);
        ring(six, 6, 7);
        DayTown inner = townOfSums();
        for (int i = 0; i < 4; i++) {
            owe(inner, i, (i + 1) % 4, 15);
        }
        ring(inner, 0, 1, 2, 3);
        owe(inner, 1, 0, 30);
        owe(inner, 0, 1, 15);
        ring(inner, 0, 1);
    }

    private static void firstOfAlike() {
        CHECK.sentence("III: of these the first, written from its least PERSON on (the least second one, and so on)");
        DayTown town = townOfSums();
        owe(town, 6, 7, 10);
        owe(town, 7, 6, 10);
        ring(town, 6, 7);
        owe(town, 5, 7, 10);
        owe(town, 7, 5, 10);
        ring(town, 5, 7);
        owe(town, 5, 6, 10);
        owe(town, 6, 5, 10);
        ring(town, 5, 6, 7);
        DayTown way = townOfSums();
        owe(way, 1, 5, 10);
        owe(way, 5, 3, 10);
        owe(way, 3, 1, 10);
        ring(way, 1, 5, 3);
        owe(way, 3, 5, 10);
        ring(way, 1, 5, 3);
        owe(way, 1, 3, 9);
        owe(way, 5, 1, 10);
        ring(way, 1, 5, 3);
        owe(way, 1, 3, 1);
        ring(way, 1, 3, 5);
        DayTown third = townOfSums();
        owe(third, 0, 1, 10);
        owe(third, 1, 3, 10);
        owe(third, 3, 2, 10);
        owe(third, 2, 0, 10);
        ring(third, 0, 1, 3, 2);
        owe(third, 1, 2, 10);
        owe(third, 2, 3, 10);
        owe(third, 3, 0, 10);
        ring(third, 0, 1, 2, 3);
    }

    private static void leastSumIsMet() {
        CHECK.sentence("III: it MEETS the least of these sums, by which each of them becomes less");
        for (int least = 0; least < 3; least++) {
            DayTown town = townOfSums();
            int[] sums = {40, 50, 60};
            sums[least] = 7;
            owe(town, 3, 6, sums[0]);
            owe(town, 6, 4, sums[1]);
            owe(town, 4, 3, sums[2]);
            ring(town, 3, 6, 4);
            meets(town, 3, 6, sums[0] - 7, 6, 4, sums[1] - 7, 4, 3, sums[2] - 7);
        }
        DayTown pair = townOfSums();
        owe(pair, 7, 6, 1);
        owe(pair, 6, 7, 100);
        meets(pair, 6, 7, 99);
        DayTown all = townOfSums();
        for (int i = 0; i < 8; i++) {
            owe(all, i, (i + 1) % 8, 33);
        }
        meets(all);
    }

    /** What is met first takes from what the others could meet. */
    private static void ringsOneByOne() {
        CHECK.sentence("III: RINGS are met one by one, as long as there are any");
        DayTown town = townOfSums();
        owe(town, 1, 2, 30);
        owe(town, 2, 1, 20);
        owe(town, 2, 3, 15);
        owe(town, 3, 1, 15);
        ring(town, 1, 2, 3);
        meets(town, 2, 1, 5);
        DayTown other = townOfSums();
        owe(other, 1, 2, 30);
        owe(other, 2, 1, 23);
        owe(other, 2, 3, 15);
        owe(other, 3, 1, 15);
        ring(other, 1, 2);
        meets(other, 2, 3, 8, 3, 1, 8);
        DayTown four = townOfSums();
        for (int i = 0; i < 8; i += 2) {
            owe(four, i, i + 1, 10 + i);
            owe(four, i + 1, i, 20 - i);
        }
        ring(four, 4, 5);
        meets(four, 1, 0, 10, 3, 2, 6, 5, 4, 2, 6, 7, 2);
        CHECK.sentence("III: a MEETING leaves alone what is in no RING");
        DayTown none = townOfSums();
        owe(none, 0, 7, 100);
        owe(none, 0, 6, 50);
        owe(none, 6, 7, 1);
        meets(none, 0, 7, 100, 0, 6, 50, 6, 7, 1);
    }

    private static void ringsAheadOfAll() {
        CHECK.sentence("20, 21: behind all PAPERS made on DAYS up to one");
        DayTown town = Check.townOf(3);
        town.loan(5, 1, 1, 9, 2);
        town.loan(7, 2, 2, 9, 1);
        town.meeting(8);
        for (int day : new int[] {399, 8, 7, 6, 5, 4, 7, 0}) {
            CHECK.due("ring on " + day, town.ring(day, 3, 0), day == 7 ? 1 : -1);
            CHECK.due("ring on " + day, town.ring(day, 3, 1), day == 7 ? 2 : -1);
            CHECK.none("ring on " + day, town.ring(day, 3, 2));
            CHECK.due("leaves on " + day, town.leaves(day, 3), day == 5 || day == 6 ? 11 : 0);
        }
        CHECK.due("by 2 on 8", town.ring(8, 2, 0), 1);
        CHECK.none("by 1 on 8", town.ring(8, 1, 0));
        CHECK.due("leaves by 1", town.leaves(8, 1), 11);
        CHECK.none("by 0", town.ring(7, 0, 0));
        CHECK.due("leaves by 0", town.leaves(7, 0), 0);
    }

    private static void ringAndLeavesRefuse() {
        CHECK.sentence("20: NONE: not so many, no RING, no such ones");
        DayTown town = Check.townOf(2);
        town.loan(0, 0, 0, 9, 1);
        town.loan(0, 1, 1, 9, 0);
        CHECK.due("ring", town.ring(0, 2, 0), 0);
        for (int i : new int[] {-1, 2, 8, LEAST, MOST}) {
            CHECK.none("ring " + i, town.ring(0, 2, i));
        }
        for (int n : new int[] {-1, 3, 121, LEAST, MOST}) {
            CHECK.none("ring by " + n, town.ring(0, n, 0));
            CHECK.none("leaves by " + n, town.leaves(0, n));
        }
        CHECK.sentence("21: NONE: no such ones");
        for (int day : new int[] {-1, 400, LEAST, MOST}) {
            CHECK.none("ring on " + day, town.ring(day, 2, 0));
            CHECK.none("leaves on " + day, town.leaves(day, 2));
        }
        CHECK.due("leaves", town.leaves(0, 2), 0);
    }

    /** Fact 1 is forged by fact 4; then 2 has nothing to give, and 3 is void no more. */
    private static void turnedPapers() {
        CHECK.sentence("26: The first PAPER that is void as KNOWN by one of n and m and not by the other");
        DayTown town = Check.townOf(3);
        town.meeting(9);
        town.loan(5, 0, 0, 20, 1);
        town.loan(6, 1, 0, 20, 2);
        town.loan(7, 0, 0, 20, 2);
        town.forged(1);
        town.forged(0);
        town.forged(2);
        for (int n = 0; n <= 7; n++) {
            for (int m = 0; m <= 7; m++) {
                int less = Math.min(n, m);
                int more = Math.max(n, m);
                boolean turns1 = less >= 2 && less < 5 && more >= 5;
                boolean turns0 = less >= 1 && less < 6 && more >= 6;
                CHECK.due("turned " + n + " " + m, town.turned(n, m), turns0 ? 0 : turns1 ? 1 : -1);
            }
        }
        CHECK.due("2 by 4", town.isVoid(2, 4), 0);
        CHECK.due("2 by 5", town.isVoid(2, 5), 2);
        CHECK.due("3 by 4", town.isVoid(3, 4), 2);
        CHECK.due("3 by 5", town.isVoid(3, 5), 0);
        DayTown back = Check.townOf(3);
        back.loan(7, 0, 0, 20, 2);
        back.loan(5, 0, 0, 20, 1);
        back.forged(1);
        CHECK.due("a late one turns the first", back.turned(1, 2), 0);
        CHECK.due("it turns back", back.turned(1, 3), -1);
        CHECK.due("both turn", back.turned(2, 3), 0);
        DayTown why = Check.townOf(2);
        why.loan(5, 0, 0, 4, 1);
        why.forged(0);
        CHECK.none("void by another reason is void", why.turned(1, 2));
    }

    private static void turnedRefuses() {
        CHECK.sentence("26: of those KNOWN by both; NONE: none, no such ones");
        DayTown town = Check.townOf(2);
        town.loan(5, 0, 0, 20, 1);
        town.forged(0);
        CHECK.due("by 1 and 2", town.turned(1, 2), 0);
        CHECK.due("by 2 and 1", town.turned(2, 1), 0);
        for (int n = 0; n <= 2; n++) {
            CHECK.none("by 0 and " + n, town.turned(0, n));
            CHECK.none("by " + n + " and 0", town.turned(n, 0));
            CHECK.none("by " + n + " twice", town.turned(n, n));
            for (int wrong : new int[] {-1, 3, 121, LEAST, MOST}) {
                CHECK.none("by " + n + " and " + wrong, town.turned(n, wrong));
                CHECK.none("by " + wrong + " and " + n, town.turned(wrong, n));
            }
        }
    }
}
