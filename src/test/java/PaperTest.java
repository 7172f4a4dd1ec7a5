/** Promises 7, 8, 13 to 17 and 26: papers in their order, void or not, and the leaves they move. */
public final class PaperTest {
    private static final Check CHECK = new Check("PaperTest");

    public static void main(String[] args) {
        orderOfPapers();
        reasons();
        leastReasonCounts();
        chains();
        awakeAndAge();
        wrongQuestions();
        turns();
        turnsOfWhatWasAskedFor();
        CHECK.end();
    }

    /** Told late, but made early: what is told first is void then. */
    private static void orderOfPapers() {
        DayTown town = Check.townOf(4);
        town.loan(5, 0, 0, 20, 1);
        town.loan(4, 0, 0, 20, 2);
        town.loan(4, 2, 0, 20, 3);
        town.loan(4, 0, 0, 20, 1);
        CHECK.due("the later made, known by 1", town.isVoid(0, 1), 0);
        CHECK.due("the later made, known by 2", town.isVoid(0, 2), 2);
        CHECK.due("the earlier made", town.isVoid(1, 2), 0);
        CHECK.due("of one day by numbers", town.isVoid(2, 4), 0);
        CHECK.due("of one day by numbers", town.isVoid(3, 4), 2);
        CHECK.due("holder by 0", town.holder(0, 20, 0), 0);
        CHECK.due("holder by 1", town.holder(0, 20, 1), 1);
        CHECK.due("holder by 2", town.holder(0, 20, 2), 2);
        CHECK.due("holder by 4", town.holder(0, 20, 4), 3);
        CHECK.due("the same leaf of another", town.holder(1, 20, 4), 1);
        CHECK.due("another leaf of the same", town.holder(0, 21, 4), 0);
    }

    private static void reasons() {
        DayTown town = Check.townOf(3);
        Check.readText(town, "ban if takes == 2;");
        town.loan(3, 0, 0, 4, 1);
        town.loan(3, 1, 0, 5, 0);
        town.loan(3, 0, 0, 3, 1);
        town.loan(3, 0, 0, 2, 1);
        town.loan(3, 0, 0, 6, 2);
        town.pays(3, 0, 0, 7, 2);
        town.pays(4, 1, 1, 5, 0);
        town.pays(4, 1, 1, 6, 0);
        town.pays(4, 1, 1, 7, 0);
        town.meeting(4);
        int[] why = {0, 2, 3, 3, 4, 5, 0, 0, 5, 0};
        for (int fact = 0; fact < why.length; fact++) {
            CHECK.due("isVoid(" + fact + ")", town.isVoid(fact, 10), why[fact]);
        }
        CHECK.due("holder of what is not held", town.holder(0, 5, 10), 0);
        CHECK.due("holder of what has begun", town.holder(0, 3, 10), 0);
        CHECK.due("holder of what is banned", town.holder(0, 6, 10), 0);
        CHECK.due("holder of what pays nothing", town.holder(0, 7, 10), 0);
        CHECK.due("holder of what is paid", town.holder(1, 5, 10), 0);
        CHECK.due("holder of what pays the last", town.holder(1, 6, 10), 0);
        CHECK.due("holder of what pays too much", town.holder(1, 7, 10), 1);
        CHECK.due("a ban is not for a payment", town.pays(5, 0, 0, 30, 2), 10);
        CHECK.due("its reason", town.isVoid(10, 11), 5);
        town.forged(9);
        town.forged(0);
        CHECK.due("a forged meeting", town.isVoid(9, 13), 1);
        CHECK.due("a forged loan", town.isVoid(0, 13), 1);
        CHECK.due("what it would pay", town.isVoid(6, 13), 5);
        CHECK.due("as known ahead", town.isVoid(0, 12), 0);
    }

    private static void leastReasonCounts() {
        DayTown town = Check.townOf(3);
        Check.readText(town, "ban if 1 == 1;");
        town.loan(9, 1, 0, 5, 2);
        CHECK.due("2 of 2, 3 and 4", town.isVoid(0, 1), 2);
        town.forged(0);
        CHECK.due("1 of all", town.isVoid(0, 2), 1);
        town.loan(9, 0, 0, 5, 2);
        CHECK.due("3 of 3 and 4", town.isVoid(2, 3), 3);
        town.pays(9, 0, 0, 5, 2);
        CHECK.due("3 of 3 and 5", town.isVoid(3, 4), 3);
        town.pays(9, 1, 0, 5, 2);
        CHECK.due("2 of 2, 3 and 5", town.isVoid(4, 5), 2);
        town.loan(9, 0, 0, 9, 2);
        CHECK.due("3 on the day itself", town.isVoid(5, 6), 3);
        town.loan(9, 0, 0, 10, 2);
        CHECK.due("4 on the day ahead", town.isVoid(6, 7), 4);
    }

    private static void chains() {
        DayTown town = Check.townOf(4);
        town.loan(1, 0, 0, 9, 1);
        town.loan(2, 1, 0, 9, 2);
        town.pays(3, 2, 0, 9, 1);
        town.loan(4, 1, 0, 9, 0);
        town.loan(5, 2, 0, 9, 3);
        town.loan(6, 0, 0, 9, 3);
        int[] chain = {0, 1, 2, 1, 0, 3};
        for (int i = 0; i < chain.length; i++) {
            CHECK.due("chain " + i, town.chain(0, 9, i, 6), chain[i]);
        }
        CHECK.due("chain 6", town.chain(0, 9, 6, 6), -1);
        CHECK.due("chain -1", town.chain(0, 9, -1, 6), -1);
        CHECK.due("chain least", town.chain(0, 9, Integer.MIN_VALUE, 6), -1);
        CHECK.due("chain most", town.chain(0, 9, Integer.MAX_VALUE, 6), -1);
        CHECK.due("chain 2 by 1", town.chain(0, 9, 2, 1), -1);
        CHECK.due("chain 1 by 1", town.chain(0, 9, 1, 1), 1);
        CHECK.due("chain 0 by 0", town.chain(0, 9, 0, 0), 0);
        CHECK.due("chain 1 of another", town.chain(1, 9, 1, 6), -1);
        CHECK.due("chain 0 of another", town.chain(1, 9, 0, 6), 1);
        CHECK.due("awake by a leaf that came home", town.awake(0, 9, 5), 1);
    }

    private static void awakeAndAge() {
        DayTown town = new DayTown();
        town.person(100);
        town.person(0);
        town.person(40000);
        town.loan(0, 0, 0, 10, 1);
        town.loan(1, 2, 2, 10, 1);
        town.loan(2, 0, 0, 12, 2);
        CHECK.due("asleep", town.awake(0, 10, 3), 0);
        CHECK.due("awake three times", town.awake(1, 10, 3), 3);
        CHECK.due("awake twice by 1", town.awake(1, 10, 1), 2);
        CHECK.due("awake once by 0", town.awake(1, 10, 0), 1);
        CHECK.due("awake the day ahead", town.awake(1, 9, 3), 1);
        CHECK.due("awake the day behind", town.awake(1, 11, 3), 1);
        CHECK.due("age on day 0", town.age(0, 0, 3), 101);
        CHECK.due("age ahead", town.age(0, 9, 3), 110);
        CHECK.due("age on the day asleep", town.age(0, 10, 3), 110);
        CHECK.due("age behind it", town.age(0, 11, 3), 111);
        CHECK.due("age behind two", town.age(0, 12, 3), 111);
        CHECK.due("age in the end", town.age(0, 399, 3), 498);
        CHECK.due("age in the end by 0", town.age(0, 399, 0), 500);
        CHECK.due("age by 1", town.age(0, 12, 1), 112);
        CHECK.due("age of the taker", town.age(1, 10, 3), 13);
        CHECK.due("age of the taker ahead", town.age(1, 9, 3), 10);
        CHECK.due("age of the taker in the end", town.age(1, 399, 3), 402);
        CHECK.due("age of the third on 10", town.age(2, 10, 3), 40010);
        CHECK.due("age of the third on 12", town.age(2, 12, 3), 40013);
    }

    private static void wrongQuestions() {
        DayTown town = Check.townOf(2);
        town.loan(0, 0, 0, 5, 1);
        town.feast(5, true);
        int[] noPersons = {-1, 2, 8, Integer.MIN_VALUE, Integer.MAX_VALUE};
        int[] noDays = {-1, 400, Integer.MIN_VALUE, Integer.MAX_VALUE};
        int[] noViews = {-1, 3, 121, Integer.MIN_VALUE, Integer.MAX_VALUE};
        for (int person : noPersons) {
            CHECK.due("holder of " + person, town.holder(person, 5, 2), -1);
            CHECK.due("chain of " + person, town.chain(person, 5, 0, 2), -1);
            CHECK.due("awake of " + person, town.awake(person, 5, 2), -1);
            CHECK.due("age of " + person, town.age(person, 5, 2), -1);
        }
        for (int day : noDays) {
            CHECK.due("holder on " + day, town.holder(0, day, 2), -1);
            CHECK.due("chain on " + day, town.chain(0, day, 0, 2), -1);
            CHECK.due("awake on " + day, town.awake(0, day, 2), -1);
            CHECK.due("age on " + day, town.age(0, day, 2), -1);
        }
        for (int n : noViews) {
            CHECK.due("holder by " + n, town.holder(0, 5, n), -1);
            CHECK.due("chain by " + n, town.chain(0, 5, 0, n), -1);
            CHECK.due("awake by " + n, town.awake(0, 5, n), -1);
            CHECK.due("age by " + n, town.age(0, 5, n), -1);
            CHECK.due("isVoid by " + n, town.isVoid(0, n), -1);
        }
        CHECK.due("isVoid of a feast", town.isVoid(1, 2), -1);
        CHECK.due("isVoid of none", town.isVoid(2, 2), -1);
        CHECK.due("isVoid(-1)", town.isVoid(-1, 2), -1);
        CHECK.due("isVoid(least)", town.isVoid(Integer.MIN_VALUE, 2), -1);
        CHECK.due("isVoid ahead of it", town.isVoid(0, 0), -1);
        CHECK.due("isVoid", town.isVoid(0, 1), 0);
    }

    private static void turns() {
        DayTown town = Check.townOf(3);
        Check.readText(town, "ban if feast == 1;");
        town.loan(8, 0, 0, 20, 1);
        town.loan(2, 1, 1, 20, 2);
        town.loan(2, 1, 1, 30, 2);
        town.feast(30, true);
        town.feast(20, true);
        town.feast(20, false);
        CHECK.due("nothing turns by new papers", town.turned(1, 3), -1);
        CHECK.due("a feast turns 2", town.turned(3, 4), 2);
        CHECK.due("the first by its number", town.turned(3, 5), 0);
        CHECK.due("either way", town.turned(5, 3), 0);
        CHECK.due("a feast that is none turns back", town.turned(4, 6), -1);
        CHECK.due("not known by both", town.turned(2, 4), -1);
        CHECK.due("of those known by both", town.turned(1, 5), 0);
        CHECK.due("of itself", town.turned(5, 5), -1);
        CHECK.due("by 0", town.turned(0, 6), -1);
        town.forged(2);
        CHECK.due("void by another reason is void", town.turned(4, 7), -1);
        CHECK.due("void by forgery", town.turned(3, 7), 2);
        CHECK.due("by -1", town.turned(-1, 5), -1);
        CHECK.due("by 8", town.turned(3, 8), -1);
        CHECK.due("by 8", town.turned(8, 3), -1);
        CHECK.due("by most", town.turned(Integer.MAX_VALUE, Integer.MIN_VALUE), -1);
        town.loan(1, 0, 0, 20, 2);
        CHECK.due("a late paper turns an earlier one", town.turned(7, 8), 0);
        CHECK.due("and is none of both", town.isVoid(7, 8), 0);
    }

    /** Whatever was asked ahead, by whichever n. */
    private static void turnsOfWhatWasAskedFor() {
        for (int asked = 0; asked < 81; asked++) {
            DayTown town = Check.townOf(2);
            town.loan(1, 0, 0, 20, 1);
            town.loan(1, 0, 0, 21, 1);
            town.forged(1);
            for (int each = asked; each > 0; each /= 3) {
                town.holder(0, 20, 1 + each % 3);
            }
            CHECK.due("turned behind " + asked, town.turned(2, 3), 1);
            CHECK.due("turned back behind " + asked, town.turned(3, 2), 1);
            CHECK.due("not turned behind " + asked, town.turned(1, 3), -1);
            CHECK.due("isVoid behind " + asked, town.isVoid(1, 2), 0);
            CHECK.due("isVoid behind " + asked, town.isVoid(1, 3), 1);
        }
    }
}
