/** Promises 24 and 25: which sightings count, and who is the doer. */
public final class CourtTest {
    private static final Check CHECK = new Check("CourtTest");

    public static void main(String[] args) {
        countsByAwake();
        mostNamed();
        onlyTheLastIsLookedAt();
        asleepOnesAreNoDoers();
        knownByN();
        wrongQuestions();
        CHECK.end();
    }

    private static void countsByAwake() {
        DayTown town = Check.townOf(3);
        town.loan(1, 0, 0, 9, 1);
        town.seen(0, 1, 0, 9);
        town.seen(1, 0, 0, 9);
        town.seen(0, 1, 0, 8);
        town.seen(2, 2, 0, 8);
        CHECK.due("asleep", town.counts(1, 5), 0);
        CHECK.due("awake twice", town.counts(2, 5), 1);
        CHECK.due("awake the day ahead", town.counts(3, 5), 1);
        CHECK.due("of oneself", town.counts(4, 5), 0);
        CHECK.due("of one asleep it counts", town.counts(2, 3), 1);
        town.forged(0);
        CHECK.due("awake by a forgery", town.counts(1, 6), 1);
        CHECK.due("asleep as known ahead", town.counts(1, 5), 0);
    }

    private static void mostNamed() {
        DayTown town = Check.townOf(6);
        town.seen(1, 0, 3, 9);
        CHECK.due("one", town.doer(3, 9, 1), 0);
        town.seen(2, 5, 3, 9);
        CHECK.due("two with as many", town.doer(3, 9, 2), -1);
        town.seen(3, 5, 3, 9);
        CHECK.due("more", town.doer(3, 9, 3), 5);
        CHECK.due("another deed", town.doer(2, 9, 3), -1);
        CHECK.due("another day", town.doer(3, 8, 3), -1);
        town.seen(0, 4, 3, 9);
        town.seen(5, 4, 3, 9);
        CHECK.due("two with as many again", town.doer(3, 9, 5), -1);
        town.seen(4, 4, 3, 9);
        CHECK.due("of oneself is not counted", town.doer(3, 9, 6), -1);
        town.seen(4, 1, 3, 9);
        CHECK.due("two with as many, and one with less", town.doer(3, 9, 7), -1);
        town.seen(4, 5, 3, 9);
        CHECK.due("three and two", town.doer(3, 9, 8), 5);
    }

    private static void onlyTheLastIsLookedAt() {
        DayTown town = Check.townOf(4);
        town.seen(1, 0, 3, 9);
        town.seen(1, 0, 3, 9);
        town.seen(2, 3, 3, 9);
        CHECK.due("said twice is said once", town.doer(3, 9, 3), -1);
        town.seen(1, 3, 3, 9);
        CHECK.due("the last", town.doer(3, 9, 4), 3);
        town.seen(1, 0, 4, 9);
        town.seen(2, 0, 3, 8);
        CHECK.due("of another deed or day", town.doer(3, 9, 6), 3);
        town.seen(1, 1, 3, 9);
        town.seen(2, 2, 3, 9);
        CHECK.due("the last does not count, nor what was said ahead", town.doer(3, 9, 8), -1);
        CHECK.due("as known by 7", town.doer(3, 9, 7), 3);
        CHECK.due("what was said ahead counts as ever", town.counts(3, 8), 1);
    }

    private static void asleepOnesAreNoDoers() {
        DayTown town = Check.townOf(5);
        town.loan(1, 0, 0, 9, 1);
        town.seen(2, 0, 3, 9);
        CHECK.due("asleep", town.doer(3, 9, 2), -1);
        town.seen(3, 0, 3, 9);
        town.seen(4, 1, 3, 9);
        CHECK.due("awake, though fewer name it", town.doer(3, 9, 4), 1);
        town.seen(0, 2, 3, 9);
        CHECK.due("who sleeps sees nothing", town.doer(3, 9, 5), 1);
        town.seen(1, 2, 3, 9);
        CHECK.due("two with as many, one asleep", town.doer(3, 9, 6), -1);
        town.forged(0);
        CHECK.due("awake by a forgery: 2 and 2", town.doer(3, 9, 7), -1);
        town.seen(1, 0, 3, 9);
        CHECK.due("3 by then", town.doer(3, 9, 8), 0);
        DayTown lone = Check.townOf(8);
        for (int person = 1; person < 8; person++) {
            lone.loan(1, person, person, 9, 0);
        }
        CHECK.due("the only one awake, whom nobody names", lone.doer(3, 9, 7), -1);
        lone.seen(0, 1, 3, 9);
        CHECK.due("it names one asleep", lone.doer(3, 9, 8), -1);
    }

    private static void knownByN() {
        DayTown town = Check.townOf(3);
        town.seen(1, 0, 0, 0);
        town.seen(2, 1, 9, 399);
        CHECK.due("deed 0, day 0", town.doer(0, 0, 1), 0);
        CHECK.due("by 0", town.doer(0, 0, 0), -1);
        CHECK.due("deed 9, day 399", town.doer(9, 399, 2), 1);
        CHECK.due("by 1", town.doer(9, 399, 1), -1);
        town.person(0);
        CHECK.due("by one more person", town.doer(9, 399, 2), 1);
    }

    private static void wrongQuestions() {
        DayTown town = Check.townOf(2);
        town.seen(1, 0, 0, 5);
        town.loan(0, 0, 0, 6, 1);
        CHECK.due("counts", town.counts(0, 2), 1);
        CHECK.due("counts of a loan", town.counts(1, 2), -1);
        for (int fact : new int[] {-1, 2, 120, Integer.MIN_VALUE, Integer.MAX_VALUE}) {
            CHECK.due("counts of " + fact, town.counts(fact, 2), -1);
        }
        for (int n : new int[] {-1, 3, 121, Integer.MIN_VALUE, Integer.MAX_VALUE}) {
            CHECK.due("counts by " + n, town.counts(0, n), -1);
            CHECK.due("doer by " + n, town.doer(0, 5, n), -1);
        }
        CHECK.due("counts by 0", town.counts(0, 0), -1);
        CHECK.due("doer", town.doer(0, 5, 2), 0);
        for (int day : new int[] {-1, 400, Integer.MIN_VALUE, Integer.MAX_VALUE}) {
            CHECK.due("doer on " + day, town.doer(0, day, 2), -1);
        }
        for (int deed : new int[] {-1, 10, Integer.MIN_VALUE, Integer.MAX_VALUE}) {
            CHECK.due("doer of " + deed, town.doer(deed, 5, 2), -1);
        }
    }
}
