/** Part IV, promises 24 and 25: each sentence that names an edge, one by one. */
public final class EdgeCourtTest {
    private static final Check CHECK = new Check("EdgeCourtTest");
    private static final int LEAST = Integer.MIN_VALUE;
    private static final int MOST = Integer.MAX_VALUE;

    public static void main(String[] args) {
        countsIfAwake();
        notTheDoer();
        countsRefuses();
        doerIsAwake();
        oneThatCounts();
        moreThanAnyOther();
        eightWitnesses();
        othersAreAwakeToo();
        saidLast();
        saidLastAsKnown();
        doerRefuses();
        CHECK.end();
    }

    private static void countsIfAwake() {
        CHECK.sentence("IV: A SEEN counts if the one who says it is AWAKE on that DAY");
        DayTown town = Check.townOf(3);
        town.seen(0, 1, 0, 9);
        town.seen(0, 1, 0, 8);
        town.seen(0, 1, 0, 10);
        town.seen(2, 1, 0, 9);
        town.loan(1, 0, 0, 9, 2);
        town.loan(1, 1, 1, 9, 0);
        town.forged(5);
        int[] awake = {1, 1, 1, 1, 0, 1, 0};
        for (int n = 0; n <= 7; n++) {
            int times = n == 0 ? -1 : awake[n - 1];
            CHECK.due("asleep or awake by " + n, town.counts(0, n), times);
            CHECK.due("the day ahead by " + n, town.counts(1, n), n < 2 ? -1 : 1);
            CHECK.due("the day behind by " + n, town.counts(2, n), n < 3 ? -1 : 1);
            CHECK.due("once or twice awake by " + n, town.counts(3, n), n < 4 ? -1 : 1);
        }
    }

    private static void notTheDoer() {
        CHECK.sentence("IV: and not the doer");
        DayTown town = Check.townOf(3);
        for (int one = 0; one < 3; one++) {
            for (int other = 0; other < 3; other++) {
                int fact = town.seen(one, other, 5, 9);
                CHECK.due(one + " of " + other, town.counts(fact, fact + 1), one == other ? 0 : 1);
            }
        }
        town.loan(1, 0, 0, 9, 1);
        CHECK.due("of one who sleeps", town.counts(3, 10), 1);
        CHECK.due("of oneself, twice awake", town.counts(4, 10), 0);
        CHECK.due("by one who sleeps", town.counts(1, 10), 0);
    }

    private static void countsRefuses() {
        CHECK.sentence("24: NONE: no such one among the first n, another FACT");
        DayTown town = Check.townOf(2);
        town.loan(0, 0, 0, 9, 1);
        town.pays(0, 1, 1, 9, 0);
        town.meeting(0);
        town.forged(1);
        town.feast(9, true);
        town.seen(0, 1, 0, 8);
        for (int fact = 0; fact < 5; fact++) {
            CHECK.none("fact " + fact, town.counts(fact, 6));
        }
        for (int n = 0; n <= 6; n++) {
            CHECK.due("by " + n, town.counts(5, n), n == 6 ? 1 : -1);
        }
        for (int fact : new int[] {-1, 6, 120, LEAST, MOST}) {
            CHECK.none("fact " + fact, town.counts(fact, 6));
        }
        for (int n : new int[] {-1, 7, 121, LEAST, MOST}) {
            CHECK.none("by " + n, town.counts(5, n));
        }
    }

    private static void doerIsAwake() {
        CHECK.sentence("IV: THE DOER of a DEED on a DAY if it is AWAKE then");
        DayTown town = Check.townOf(3);
        town.seen(1, 0, 0, 9);
        town.loan(1, 0, 0, 9, 2);
        town.loan(2, 1, 1, 9, 0);
        town.seen(2, 0, 0, 9);
        CHECK.due("awake once", town.doer(0, 9, 1), 0);
        CHECK.none("asleep", town.doer(0, 9, 2));
        CHECK.none("awake by another's, whose sleep takes the one that counts", town.doer(0, 9, 3));
        CHECK.due("awake by another's", town.doer(0, 9, 4), 0);
    }

    private static void oneThatCounts() {
        CHECK.sentence("IV: one SEEN at least that names it counts");
        DayTown town = Check.townOf(3);
        CHECK.none("none", town.doer(0, 9, 0));
        town.seen(0, 0, 0, 9);
        CHECK.none("of oneself", town.doer(0, 9, 1));
        town.loan(1, 1, 1, 9, 2);
        town.seen(1, 0, 0, 9);
        CHECK.none("by one who sleeps", town.doer(0, 9, 3));
        town.seen(2, 0, 0, 9);
        CHECK.due("one that counts", town.doer(0, 9, 4), 0);
        DayTown lone = Check.townOf(2);
        lone.loan(1, 1, 1, 9, 0);
        CHECK.none("the only one awake", lone.doer(0, 9, 1));
        lone.seen(0, 1, 0, 9);
        CHECK.none("one asleep is named", lone.doer(0, 9, 2));
    }

    private static void moreThanAnyOther() {
        CHECK.sentence("IV, 25: more than any other one who is AWAKE; NONE: nobody (two with as many)");
        DayTown town = Check.townOf(8);
        int[] names = {1, 0, 1, 2, 0, 0, 1, 2};
        int[] doers = {1, -1, 1, 1, -1, 0, -1, -1};
        for (int witness = 0; witness < 8; witness++) {
            town.seen(witness, names[witness], 9, 399);
            CHECK.due("by " + (witness + 1), town.doer(9, 399, witness + 1), doers[witness]);
        }
        town.seen(7, 3, 9, 399);
        CHECK.none("three, three, one and one", town.doer(9, 399, 9));
        town.seen(7, 0, 9, 399);
        CHECK.due("four and three", town.doer(9, 399, 10), 0);
        town.seen(7, 1, 9, 399);
        CHECK.due("three and four", town.doer(9, 399, 11), 1);
    }

    private static void eightWitnesses() {
        CHECK.sentence("IV: more of these (the last witness and the last doer)");
        DayTown town = Check.townOf(8);
        town.seen(7, 0, 0, 0);
        CHECK.due("the last one's", town.doer(0, 0, 1), 0);
        town.seen(0, 7, 0, 0);
        CHECK.none("one and one", town.doer(0, 0, 2));
        for (int witness = 1; witness < 7; witness++) {
            town.seen(witness, 7, 0, 0);
            CHECK.due("the last one, by " + (witness + 1), town.doer(0, 0, 2 + witness), 7);
        }
    }

    /** Who sleeps is in nobody's way, however many name it. */
    private static void othersAreAwakeToo() {
        CHECK.sentence("IV: any other one who is AWAKE");
        DayTown town = Check.townOf(6);
        town.seen(1, 0, 0, 9);
        town.seen(2, 0, 0, 9);
        town.seen(3, 5, 0, 9);
        CHECK.due("two and one", town.doer(0, 9, 3), 0);
        town.loan(1, 0, 0, 9, 4);
        CHECK.due("the two's sleeps", town.doer(0, 9, 4), 5);
        town.seen(4, 3, 0, 9);
        CHECK.none("one and one", town.doer(0, 9, 5));
        town.loan(1, 5, 5, 9, 4);
        CHECK.due("the one sleeps too", town.doer(0, 9, 6), 3);
        town.forged(3);
        CHECK.due("two again", town.doer(0, 9, 7), 0);
    }

    private static void saidLast() {
        CHECK.sentence("IV: of each PERSON only what it said last of one DEED and DAY is looked at");
        DayTown town = Check.townOf(4);
        town.seen(1, 0, 5, 9);
        town.seen(1, 0, 5, 9);
        town.seen(2, 3, 5, 9);
        CHECK.none("twice the same is one", town.doer(5, 9, 3));
        town.seen(1, 2, 5, 8);
        town.seen(1, 2, 5, 10);
        town.seen(1, 2, 4, 9);
        town.seen(1, 2, 6, 9);
        CHECK.none("of other ones it said more", town.doer(5, 9, 7));
        CHECK.due("the day ahead", town.doer(5, 8, 7), 2);
        CHECK.due("the day behind", town.doer(5, 10, 7), 2);
        CHECK.due("the deed ahead", town.doer(4, 9, 7), 2);
        CHECK.due("the deed behind", town.doer(6, 9, 7), 2);
        town.seen(1, 3, 5, 9);
        CHECK.due("another one", town.doer(5, 9, 8), 3);
        town.seen(2, 0, 5, 9);
        CHECK.none("one and one", town.doer(5, 9, 9));
        town.seen(1, 1, 5, 9);
        CHECK.due("the last does not count, and takes the ones ahead with it", town.doer(5, 9, 10), 0);
        CHECK.due("those count for themselves", town.counts(7, 10), 1);
        town.seen(1, 3, 5, 9);
        town.seen(0, 3, 5, 9);
        CHECK.due("two and one", town.doer(5, 9, 12), 3);
    }

    private static void saidLastAsKnown() {
        CHECK.sentence("IV: what it said last, as KNOWN by n");
        DayTown town = Check.townOf(4);
        int[] named = {0, 2, 3, 1, 0, 3};
        for (int name : named) {
            town.seen(1, name, 0, 0);
        }
        for (int n : new int[] {6, 0, 1, 5, 2, 4, 3}) {
            int last = n == 0 ? -1 : named[n - 1];
            CHECK.due("by " + n, town.doer(0, 0, n), last == 1 ? -1 : last);
        }
    }

    private static void doerRefuses() {
        CHECK.sentence("25: NONE: no such ones");
        DayTown town = Check.townOf(2);
        for (int deed = 0; deed <= 9; deed++) {
            town.seen(0, 1, deed, 0);
            town.seen(0, 1, deed, 399);
        }
        CHECK.due("deed 0 on 0", town.doer(0, 0, 20), 1);
        CHECK.due("deed 9 on 399", town.doer(9, 399, 20), 1);
        CHECK.none("deed 9 on 398", town.doer(9, 398, 20));
        for (int deed : new int[] {-1, 10, LEAST, MOST}) {
            CHECK.none("deed " + deed, town.doer(deed, 0, 20));
        }
        for (int day : new int[] {-1, 400, LEAST, MOST}) {
            CHECK.none("day " + day, town.doer(0, day, 20));
        }
        for (int n : new int[] {-1, 21, 121, LEAST, MOST}) {
            CHECK.none("by " + n, town.doer(0, 0, n));
        }
    }
}
