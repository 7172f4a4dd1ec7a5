/** Part I, promises 1, 6 to 12 and 27: each sentence that names an edge, one by one. */
public final class EdgeFactsTest {
    private static final Check CHECK = new Check("EdgeFactsTest");
    private static final int LEAST = Integer.MIN_VALUE;
    private static final int MOST = Integer.MAX_VALUE;
    private static final int[] NO_DAYS = {-1, 400, LEAST, MOST};
    private static final int[] NO_DEEDS = {-1, 10, LEAST, MOST};

    public static void main(String[] args) {
        newObject();
        eightPersons();
        daysLived();
        firstAndLastDay();
        noOtherDays();
        holderTillGiven();
        voidPapersGiveNothing();
        awakeFromNoneToEight();
        ageUpToThatDay();
        factsAtMost120();
        lastFactCounts();
        knownByTheFirstN();
        forgedIsAnEarlierPaper();
        latestFeastCounts();
        deeds();
        giftsRefused();
        meetingsAndFeastsRefused();
        seenRefused();
        counts();
        CHECK.end();
    }

    private static void newObject() {
        CHECK.sentence("1: Nobody, no LAW, nothing is told");
        DayTown town = new DayTown();
        for (int what = 0; what <= 4; what++) {
            CHECK.due("count " + what, town.count(what), 0);
        }
        CHECK.none("holder", town.holder(0, 0, 0));
        CHECK.none("chain", town.chain(0, 0, 0, 0));
        CHECK.none("awake", town.awake(0, 0, 0));
        CHECK.none("age", town.age(0, 0, 0));
        CHECK.none("owes", town.owes(0, 1, 0, 0));
        CHECK.due("net", town.net(0, 0, 0), 0);
        CHECK.none("ring", town.ring(0, 0, 0));
        CHECK.due("leaves", town.leaves(0, 0), 0);
        CHECK.none("isVoid", town.isVoid(0, 0));
        CHECK.none("grows", town.grows(0, 0));
        CHECK.none("ban", town.ban(0, 0));
        CHECK.none("counts", town.counts(0, 0));
        CHECK.none("doer", town.doer(0, 0, 0));
        CHECK.none("turned", town.turned(0, 0));
        CHECK.none("place", town.place());
        CHECK.due("back 0", town.back(0), 0);
        CHECK.refused("loan", town.loan(0, 0, 0, 1, 1), town, 0, 0);
        CHECK.refused("pays", town.pays(0, 0, 0, 1, 1), town, 0, 0);
        CHECK.refused("forged", town.forged(0), town, 0, 0);
        CHECK.refused("seen", town.seen(0, 1, 0, 0), town, 0, 0);
        CHECK.due("meeting of nobody", town.meeting(0), 0);
        CHECK.due("feast of nobody", town.feast(0, true), 1);
        CHECK.due("the meeting is not void", town.isVoid(0, 2), 0);
    }

    private static void eightPersons() {
        CHECK.sentence("I: PERSONS, 8 at most, numbered from 0 on");
        DayTown town = new DayTown();
        for (int i = 0; i < 8; i++) {
            CHECK.none("holder of one to come", town.holder(i, 0, 0));
            CHECK.due("person " + i, town.person(i), i);
            CHECK.due("count 0", town.count(0), i + 1);
            CHECK.due("holder of the last", town.holder(i, 0, 0), i);
        }
        CHECK.sentence("6: NONE, and nothing happens: 8 are there");
        CHECK.refused("a ninth", town.person(0), town, 8, 0);
        CHECK.refused("a tenth", town.person(40000), town, 8, 0);
        CHECK.none("holder of the ninth", town.holder(8, 0, 0));
        for (int i = 0; i < 8; i++) {
            CHECK.due("age of " + i, town.age(i, 0, 0), i + 1);
        }
    }

    private static void daysLived() {
        CHECK.sentence("6: NONE, and nothing happens: no such days lived");
        DayTown town = new DayTown();
        for (int lived : new int[] {-1, 40001, LEAST, MOST}) {
            CHECK.refused("person " + lived, town.person(lived), town, 0, 0);
        }
        CHECK.sentence("I: how many days each had lived ahead of DAY 0 (0 .. 40000)");
        CHECK.due("person 0", town.person(0), 0);
        CHECK.due("person 40000", town.person(40000), 1);
        CHECK.due("age of 0 lived", town.age(0, 0, 0), 1);
        CHECK.due("age of 40000 lived", town.age(1, 0, 0), 40001);
        CHECK.due("age in the end", town.age(1, 399, 0), 40400);
        CHECK.refused("person -1", town.person(-1), town, 2, 0);
        CHECK.due("the next one's number", town.person(1), 2);
    }

    /** By 0, 1 owes 0 the rest of a loan: 11 less 10. */
    private static DayTown townOfBothEnds() {
        DayTown town = Check.townOf(2);
        town.loan(0, 0, 0, 399, 1);
        town.loan(399, 1, 1, 0, 0);
        town.pays(0, 1, 1, 399, 0);
        town.pays(399, 0, 0, 0, 1);
        town.meeting(0);
        town.meeting(399);
        town.feast(0, true);
        town.feast(399, true);
        town.seen(0, 1, 0, 0);
        town.seen(0, 1, 0, 399);
        return town;
    }

    private static void firstAndLastDay() {
        CHECK.sentence("I: DAYS go from 0 to 399");
        DayTown town = townOfBothEnds();
        CHECK.due("facts", town.count(1), 10);
        for (int day : new int[] {0, 399}) {
            int given = day == 0 ? 0 : 1;
            CHECK.due("holder on " + day, town.holder(0, day, 10), given);
            CHECK.due("chain on " + day, town.chain(1, day, given, 10), 1 - given);
            CHECK.due("awake on " + day, town.awake(0, day, 10), 1);
            CHECK.due("age on " + day, town.age(0, day, 10), day + 1);
            CHECK.due("owes on " + day, town.owes(1, 0, day, 10), 1);
            CHECK.due("net on " + day, town.net(1, day, 10), 1);
            CHECK.due("leaves on " + day, town.leaves(day, 10), 1);
            CHECK.due("doer on " + day, town.doer(0, day, 10), 1);
        }
        DayTown ring = Check.townOf(2);
        ring.loan(0, 0, 0, 9, 1);
        ring.loan(0, 1, 1, 9, 0);
        CHECK.due("ring on 0", ring.ring(0, 2, 1), 1);
        CHECK.due("ring on 399", ring.ring(399, 2, 1), 1);
    }

    private static void noOtherDays() {
        CHECK.sentence("I: DAYS go from 0 to 399 (no such ones)");
        DayTown town = townOfBothEnds();
        for (int day : NO_DAYS) {
            String on = " " + day;
            CHECK.none("holder" + on, town.holder(0, day, 10));
            CHECK.none("chain" + on, town.chain(0, day, 0, 10));
            CHECK.none("awake" + on, town.awake(0, day, 10));
            CHECK.none("age" + on, town.age(0, day, 10));
            CHECK.none("owes" + on, town.owes(1, 0, day, 10));
            CHECK.due("net" + on, town.net(1, day, 10), 0);
            CHECK.none("ring" + on, town.ring(day, 10, 0));
            CHECK.none("leaves" + on, town.leaves(day, 10));
            CHECK.none("doer" + on, town.doer(0, day, 10));
        }
    }

    private static void holderTillGiven() {
        CHECK.sentence("I: its HOLDER is that PERSON, till a paper gives it to another one");
        DayTown town = Check.townOf(3);
        town.loan(0, 0, 0, 399, 2);
        town.loan(0, 1, 1, 1, 2);
        CHECK.due("ahead of it", town.holder(0, 399, 0), 0);
        CHECK.due("from it on", town.holder(0, 399, 1), 2);
        CHECK.due("the day ahead", town.holder(0, 398, 2), 0);
        CHECK.due("the next one's first day", town.holder(1, 0, 2), 1);
        CHECK.due("the next one's last day", town.holder(1, 399, 2), 1);
        CHECK.due("not by 1", town.holder(1, 1, 1), 1);
        CHECK.due("by 2", town.holder(1, 1, 2), 2);
        CHECK.due("the days beside", town.holder(1, 2, 2), 1);
        CHECK.due("the ones beside", town.holder(0, 1, 2), 0);
        CHECK.due("the ones beside", town.holder(2, 1, 2), 2);
    }

    /** Its own day 0 is what nobody can ever give: it has begun on each day. */
    private static void voidPapersGiveNothing() {
        CHECK.sentence("III: Else the taker is HOLDER (no void paper, no MEETING)");
        DayTown town = Check.townOf(2);
        town.loan(0, 1, 0, 5, 0);
        town.loan(0, 0, 0, 0, 1);
        town.pays(0, 0, 0, 6, 1);
        town.meeting(0);
        for (int n = 0; n <= 4; n++) {
            CHECK.due("holder of 0's day 0", town.holder(0, 0, n), 0);
            CHECK.due("its chain", town.chain(0, 0, 0, n), 0);
            CHECK.none("its next link", town.chain(0, 0, 1, n));
            CHECK.due("holder of 5", town.holder(0, 5, n), 0);
            CHECK.due("holder of 6", town.holder(0, 6, n), 0);
            CHECK.due("awake on 0", town.awake(0, 0, n), 1);
            CHECK.due("awake on 0", town.awake(1, 0, n), 1);
            CHECK.due("age", town.age(1, 399, n), 400);
        }
    }

    private static void awakeFromNoneToEight() {
        CHECK.sentence("I: AWAKE as often as one is HOLDER of LEAVES of that DAY (0: asleep)");
        DayTown town = Check.townOf(8);
        for (int i = 0; i < 7; i++) {
            town.loan(i, i, i, 399, 7);
        }
        for (int n = 0; n <= 7; n++) {
            CHECK.due("awake by " + n, town.awake(7, 399, n), 1 + n);
            CHECK.due("the day ahead by " + n, town.awake(7, 398, n), 1);
            for (int i = 0; i < 7; i++) {
                CHECK.due("awake " + i + " by " + n, town.awake(i, 399, n), i < n ? 0 : 1);
            }
        }
        CHECK.sentence("16: NONE: no such ones");
        CHECK.none("person -1", town.awake(-1, 399, 7));
        CHECK.none("person 8", town.awake(8, 399, 7));
        CHECK.none("n -1", town.awake(7, 399, -1));
        CHECK.none("n 8", town.awake(7, 399, 8));
    }

    private static void ageUpToThatDay() {
        CHECK.sentence("I: all LEAVES of DAYS up to that one of which it is HOLDER");
        DayTown town = Check.townOf(2);
        town.loan(0, 0, 0, 1, 1);
        town.loan(0, 0, 0, 399, 1);
        CHECK.due("asleep on 1: the day ahead", town.age(0, 0, 2), 1);
        CHECK.due("asleep on 1: that day", town.age(0, 1, 2), 1);
        CHECK.due("asleep on 1: the day behind", town.age(0, 2, 2), 2);
        CHECK.due("twice on 1: the day ahead", town.age(1, 0, 2), 1);
        CHECK.due("twice on 1: that day", town.age(1, 1, 2), 3);
        CHECK.due("ahead of the last day", town.age(0, 398, 2), 398);
        CHECK.due("asleep on the last day", town.age(0, 399, 2), 398);
        CHECK.due("twice on the last day", town.age(1, 399, 2), 402);
        CHECK.due("once by 0", town.age(1, 399, 0), 400);
        CHECK.sentence("17: NONE: no such ones");
        CHECK.none("person -1", town.age(-1, 1, 2));
        CHECK.none("person 2", town.age(2, 1, 2));
        CHECK.none("n -1", town.age(0, 1, -1));
        CHECK.none("n 3", town.age(0, 1, 3));
    }

    private static void tellOfAllKinds(DayTown town, int facts) {
        for (int i = 0; i < facts; i++) {
            switch (i % 6) {
                case 0: town.loan(i, 0, 0, i + 1, 1); break;
                case 1: town.pays(i, 1, 1, i + 1, 0); break;
                case 2: town.meeting(i); break;
                case 3: town.forged(i - 1); break;
                case 4: town.feast(i, true); break;
                default: town.seen(0, 1, 0, i); break;
            }
        }
    }

    private static void factsAtMost120() {
        CHECK.sentence("I: FACTS, numbered from 0 on, 120 at most");
        DayTown town = Check.townOf(2);
        tellOfAllKinds(town, 119);
        CHECK.due("119", town.count(1), 119);
        CHECK.due("a 120th", town.seen(0, 1, 0, 399), 119);
        CHECK.sentence("7 to 12: NONE, and nothing happens: 120 are there");
        CHECK.refused("loan", town.loan(0, 0, 0, 200, 1), town, 2, 120);
        CHECK.refused("pays", town.pays(0, 0, 0, 200, 1), town, 2, 120);
        CHECK.refused("meeting", town.meeting(0), town, 2, 120);
        CHECK.refused("forged", town.forged(0), town, 2, 120);
        CHECK.refused("feast", town.feast(0, true), town, 2, 120);
        CHECK.refused("no feast", town.feast(4, false), town, 2, 120);
        CHECK.refused("seen", town.seen(0, 1, 0, 0), town, 2, 120);
        CHECK.due("papers", town.count(2), 60);
        CHECK.due("the first is not forged", town.isVoid(0, 120), 0);
        CHECK.due("the leaf was not given", town.holder(0, 200, 120), 0);
        CHECK.none("nor seen", town.doer(0, 0, 120));
        CHECK.due("the last counts", town.counts(119, 120), 1);
        CHECK.none("a 121st is not known", town.holder(0, 0, 121));
        CHECK.due("a person comes still", town.person(0), 2);
        CHECK.due("a law comes still", Check.readText(town, "grows 1;"), 0);
    }

    /** Facts 0 and 1 make a ring of 11 both ways; the 120th fact is whatever kind. */
    private static DayTown townOf119() {
        DayTown town = Check.townOf(2);
        town.loan(0, 0, 0, 9, 1);
        town.loan(0, 1, 1, 9, 0);
        for (int i = 2; i < 119; i++) {
            town.pays(399, 0, 0, 0, 1);
        }
        return town;
    }

    private static void lastFactCounts() {
        CHECK.sentence("I: FACTS, 120 at most (the last one is one too)");
        DayTown town = townOf119();
        CHECK.due("meeting", town.meeting(0), 119);
        CHECK.due("not met by 119", town.owes(0, 1, 0, 119), 11);
        CHECK.due("met by 120", town.owes(0, 1, 0, 120), 0);
        CHECK.due("met on 399", town.owes(1, 0, 399, 120), 0);
        DayTown late = townOf119();
        CHECK.due("meeting behind all", late.meeting(399), 119);
        CHECK.due("not met ahead of it", late.owes(0, 1, 398, 120), 11);
        CHECK.due("met by it", late.owes(0, 1, 399, 120), 0);
        CHECK.none("no ring is left", late.ring(399, 120, 0));
        DayTown loan = townOf119();
        CHECK.due("loan", loan.loan(398, 0, 0, 399, 1), 119);
        CHECK.due("holder", loan.holder(0, 399, 120), 1);
        CHECK.due("owes", loan.owes(1, 0, 399, 120), 22);
        DayTown forged = townOf119();
        CHECK.due("forged", forged.forged(118), 119);
        CHECK.due("the last paper is forged", forged.isVoid(118, 120), 1);
        DayTown feast = townOf119();
        Check.readText(feast, "grows feast;");
        CHECK.due("feast", feast.feast(9, true), 119);
        CHECK.due("a feast by 120", feast.owes(1, 0, 0, 120), 1);
        CHECK.due("none by 119", feast.owes(1, 0, 0, 119), 0);
    }

    private static void knownByTheFirstN() {
        CHECK.sentence("I: as KNOWN by n the first n of them are");
        DayTown town = Check.townOf(3);
        town.loan(0, 0, 0, 9, 1);
        town.loan(1, 1, 0, 9, 2);
        int[] holders = {0, 1, 2};
        // Up and down, so that what more of them told is not left behind.
        for (int n : new int[] {0, 1, 2, 1, 0, 2, 0, 1}) {
            CHECK.due("holder by " + n, town.holder(0, 9, n), holders[n]);
            for (int i = 0; i <= 2; i++) {
                CHECK.due("link " + i + " by " + n, town.chain(0, 9, i, n), i <= n ? i : -1);
            }
            CHECK.due("owes by " + n, town.owes(2, 1, 399, n), n == 2 ? 11 : 0);
        }
        CHECK.none("by -1", town.holder(0, 9, -1));
        CHECK.none("by 3", town.holder(0, 9, 3));
        CHECK.none("by least", town.holder(0, 9, LEAST));
        CHECK.none("by most", town.holder(0, 9, MOST));
    }

    private static void forgedIsAnEarlierPaper() {
        CHECK.sentence("10: NONE, and nothing happens: no such FACT, it is no PAPER");
        DayTown town = Check.townOf(2);
        CHECK.refused("of none", town.forged(0), town, 2, 0);
        town.loan(0, 0, 0, 9, 1);
        town.pays(0, 1, 1, 9, 0);
        town.meeting(0);
        town.feast(9, true);
        town.seen(0, 1, 0, 0);
        for (int fact : new int[] {-1, 3, 4, 5, 6, LEAST, MOST}) {
            CHECK.refused("forged " + fact, town.forged(fact), town, 2, 5);
        }
        CHECK.sentence("I: FORGED: an earlier FACT that is a PAPER is none");
        CHECK.due("a loan", town.forged(0), 5);
        CHECK.due("a payment", town.forged(1), 6);
        CHECK.due("a meeting", town.forged(2), 7);
        CHECK.refused("a forged", town.forged(5), town, 2, 8);
        CHECK.due("not by 5", town.isVoid(0, 5), 0);
        CHECK.due("by 6", town.isVoid(0, 6), 1);
        CHECK.due("a payment not by 5", town.isVoid(1, 5), 0);
        CHECK.due("a payment by 7", town.isVoid(1, 7), 1);
        CHECK.due("a meeting not by 7", town.isVoid(2, 7), 0);
        CHECK.due("a meeting by 8", town.isVoid(2, 8), 1);
    }

    private static void latestFeastCounts() {
        CHECK.sentence("I: FEAST: a DAY is a feast, or no more (the latest told of it counts)");
        DayTown town = Check.townOf(2);
        Check.readText(town, "grows feast + 5;");
        town.loan(0, 0, 0, 9, 1);
        boolean[] told = {false, true, true, false, false, true};
        CHECK.due("owes by nothing told", town.owes(1, 0, 0, 1), 5);
        for (int i = 0; i < told.length; i++) {
            town.feast(9, told[i]);
            town.feast(8, !told[i]);
            town.feast(10, !told[i]);
        }
        for (int i = 0; i < told.length; i++) {
            for (int more = 0; more < 3; more++) {
                CHECK.due("owes by feast " + i, town.owes(1, 0, 0, 2 + 3 * i + more), told[i] ? 6 : 5);
            }
        }
    }

    private static void deeds() {
        CHECK.sentence("I: a DEED (0 .. 9)");
        DayTown town = Check.townOf(3);
        for (int deed : NO_DEEDS) {
            CHECK.refused("seen " + deed, town.seen(1, 0, deed, 0), town, 3, 0);
            CHECK.none("doer " + deed, town.doer(deed, 0, 0));
        }
        for (int deed = 0; deed <= 9; deed++) {
            CHECK.due("seen " + deed, town.seen(1, deed % 2 * 2, deed, 0), deed);
        }
        for (int deed = 0; deed <= 9; deed++) {
            CHECK.due("doer " + deed, town.doer(deed, 0, 10), deed % 2 * 2);
        }
        for (int deed : NO_DEEDS) {
            CHECK.none("doer " + deed, town.doer(deed, 0, 10));
        }
    }

    private static void giftsRefused() {
        DayTown town = Check.townOf(3);
        CHECK.sentence("7, 8: NONE, and nothing happens: no such PERSONS");
        for (int person : new int[] {-1, 3, 8, LEAST, MOST}) {
            CHECK.refused("loan from " + person, town.loan(0, person, 0, 9, 1), town, 3, 0);
            CHECK.refused("loan of " + person, town.loan(0, 0, person, 9, 1), town, 3, 0);
            CHECK.refused("loan to " + person, town.loan(0, 0, 0, 9, person), town, 3, 0);
            CHECK.refused("pays from " + person, town.pays(0, person, 0, 9, 1), town, 3, 0);
            CHECK.refused("pays of " + person, town.pays(0, 0, person, 9, 1), town, 3, 0);
            CHECK.refused("pays to " + person, town.pays(0, 0, 0, 9, person), town, 3, 0);
        }
        CHECK.sentence("7, 8: NONE, and nothing happens: no such DAYS");
        for (int day : NO_DAYS) {
            CHECK.refused("loan made " + day, town.loan(day, 0, 0, 9, 1), town, 3, 0);
            CHECK.refused("loan of day " + day, town.loan(0, 0, 0, day, 1), town, 3, 0);
            CHECK.refused("pays made " + day, town.pays(day, 0, 0, 9, 1), town, 3, 0);
            CHECK.refused("pays of day " + day, town.pays(0, 0, 0, day, 1), town, 3, 0);
        }
        CHECK.sentence("7, 8: NONE, and nothing happens: from and to are one");
        for (int person = 0; person < 3; person++) {
            CHECK.refused("loan", town.loan(0, person, 0, 9, person), town, 3, 0);
            CHECK.refused("pays", town.pays(0, person, 0, 9, person), town, 3, 0);
        }
        CHECK.due("a loan from another to the leaf's own", town.loan(0, 0, 2, 9, 2), 0);
        CHECK.due("a payment from another to a third", town.pays(0, 0, 2, 9, 1), 1);
        CHECK.due("papers", town.count(2), 2);
    }

    private static void meetingsAndFeastsRefused() {
        CHECK.sentence("9, 11: NONE, and nothing happens: no such DAY");
        DayTown town = new DayTown();
        for (int day : NO_DAYS) {
            CHECK.refused("meeting " + day, town.meeting(day), town, 0, 0);
            CHECK.refused("feast " + day, town.feast(day, true), town, 0, 0);
            CHECK.refused("no feast " + day, town.feast(day, false), town, 0, 0);
        }
        CHECK.due("no papers", town.count(2), 0);
    }

    private static void seenRefused() {
        CHECK.sentence("12: NONE, and nothing happens: no such PERSONS, DEED, DAY");
        DayTown town = Check.townOf(2);
        for (int person : new int[] {-1, 2, 8, LEAST, MOST}) {
            CHECK.refused("seen by " + person, town.seen(person, 0, 0, 0), town, 2, 0);
            CHECK.refused("seen of " + person, town.seen(0, person, 0, 0), town, 2, 0);
        }
        for (int deed : NO_DEEDS) {
            CHECK.refused("seen deed " + deed, town.seen(0, 1, deed, 0), town, 2, 0);
        }
        for (int day : NO_DAYS) {
            CHECK.refused("seen on " + day, town.seen(0, 1, 0, day), town, 2, 0);
        }
        CHECK.due("the next one's number", town.seen(0, 0, 9, 399), 0);
    }

    private static void counts() {
        CHECK.sentence("27: 0 PERSONS, 1 FACTS, 2 PAPERS, 3 RULES, 4 bytes on the tape");
        DayTown town = Check.townOf(7);
        tellOfAllKinds(town, 12);
        Check.readText(town, "grows 1;ban if 1<0;grows 2;");
        Check.feedText(town, "grows");
        int[] counts = {7, 12, 6, 3, 5};
        for (int what = 0; what < counts.length; what++) {
            CHECK.due("count " + what, town.count(what), counts[what]);
        }
        CHECK.sentence("27: NONE for others");
        for (int what : new int[] {-1, 5, 6, LEAST, MOST}) {
            CHECK.none("count " + what, town.count(what));
        }
    }
}
