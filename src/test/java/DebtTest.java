/** Promises 9 and 18 to 21: what all owe, and the rings by which debts are met. */
public final class DebtTest {
    private static final Check CHECK = new Check("DebtTest");
    private static int day = 0;

    public static void main(String[] args) {
        loansAndPayments();
        byDays();
        nets();
        ringsByMost();
        ringsByFewest();
        ringsByFirst();
        ringsOfSmallSums();
        meetings();
        meetingsInTime();
        ringOfEight();
        wrongQuestions();
        CHECK.end();
    }

    private static void loansAndPayments() {
        DayTown town = Check.townOf(3);
        town.loan(1, 0, 0, 20, 1);
        town.loan(1, 0, 0, 21, 1);
        town.pays(2, 1, 1, 22, 0);
        town.pays(3, 1, 1, 23, 0);
        town.pays(4, 1, 1, 24, 0);
        town.pays(5, 1, 1, 25, 0);
        CHECK.due("one loan", town.owes(1, 0, 399, 1), 11);
        CHECK.due("two loans", town.owes(1, 0, 399, 2), 22);
        CHECK.due("10 less", town.owes(1, 0, 399, 3), 12);
        CHECK.due("10 less", town.owes(1, 0, 399, 4), 2);
        CHECK.due("at least 0", town.owes(1, 0, 399, 5), 0);
        CHECK.due("nothing is left to pay", town.isVoid(5, 6), 5);
        CHECK.due("a payment makes no debt", town.owes(0, 1, 399, 6), 0);
        CHECK.due("others owe nothing", town.owes(2, 0, 399, 6), 0);
        CHECK.due("nor are they owed", town.owes(1, 2, 399, 6), 0);
        CHECK.due("nor does one owe oneself", town.owes(1, 1, 1, 6), 0);
        DayTown other = Check.townOf(3);
        other.loan(1, 0, 0, 20, 1);
        other.pays(2, 1, 0, 20, 2);
        CHECK.due("a payment is to whom one owes", other.isVoid(1, 2), 5);
        other.pays(2, 1, 0, 20, 0);
        CHECK.due("a payment by a leaf of the lender's", other.isVoid(2, 3), 0);
        CHECK.due("it is home", other.holder(0, 20, 3), 0);
        CHECK.due("one is left", other.owes(1, 0, 2, 3), 1);
    }

    private static void byDays() {
        DayTown town = Check.townOf(2);
        town.loan(7, 0, 0, 20, 1);
        town.loan(3, 0, 0, 21, 1);
        CHECK.due("on 2", town.owes(1, 0, 2, 2), 0);
        CHECK.due("on 3", town.owes(1, 0, 3, 2), 11);
        CHECK.due("on 6", town.owes(1, 0, 6, 2), 11);
        CHECK.due("on 7", town.owes(1, 0, 7, 2), 22);
        CHECK.due("on 399", town.owes(1, 0, 399, 2), 22);
        CHECK.due("on 3 by 1", town.owes(1, 0, 3, 1), 0);
        CHECK.due("on 0 by 0", town.owes(1, 0, 0, 0), 0);
        CHECK.due("net on 2", town.net(1, 2, 2), 0);
        CHECK.due("net on 3", town.net(1, 3, 2), 11);
        CHECK.due("net on 7", town.net(0, 7, 2), -22);
    }

    private static void nets() {
        DayTown town = Check.townOf(4);
        town.loan(1, 0, 0, 20, 1);
        town.loan(1, 2, 2, 20, 1);
        town.loan(1, 1, 1, 20, 3);
        CHECK.due("net of 1", town.net(1, 1, 3), 11);
        CHECK.due("net of 0", town.net(0, 1, 3), -11);
        CHECK.due("net of 3", town.net(3, 1, 3), 11);
        CHECK.due("net of nobody", town.net(4, 1, 3), 0);
        CHECK.due("net of -1", town.net(-1, 1, 3), 0);
        CHECK.due("net on -1", town.net(1, -1, 3), 0);
        CHECK.due("net on 400", town.net(1, 400, 3), 0);
        CHECK.due("net by 4", town.net(1, 1, 4), 0);
        CHECK.due("net by -1", town.net(1, 1, -1), 0);
    }

    /** One owes another so many times 10. */
    private static void owe(DayTown town, int one, int other, int times) {
        for (int i = 0; i < times; i++) {
            day++;
            town.loan(0, other, other, day, one);
        }
    }

    private static DayTown townOfTens() {
        day = 0;
        DayTown town = Check.townOf(8);
        Check.readText(town, "grows 10;");
        return town;
    }

    private static void ring(DayTown town, int... ring) {
        int n = town.count(1);
        for (int i = 0; i < ring.length; i++) {
            CHECK.due("ring " + i, town.ring(0, n, i), ring[i]);
        }
        CHECK.due("ring behind its last", town.ring(0, n, ring.length), -1);
        CHECK.due("ring -1", town.ring(0, n, -1), -1);
    }

    private static void ringsByMost() {
        DayTown town = townOfTens();
        ring(town);
        owe(town, 5, 4, 3);
        ring(town);
        owe(town, 4, 5, 2);
        ring(town, 4, 5);
        owe(town, 1, 2, 1);
        owe(town, 2, 3, 1);
        owe(town, 3, 1, 1);
        ring(town, 4, 5);
        owe(town, 1, 2, 1);
        owe(town, 2, 3, 1);
        ring(town, 4, 5);
        owe(town, 3, 1, 1);
        ring(town, 1, 2, 3);
        CHECK.due("leaves", town.leaves(0, town.count(1)), 10);
        DayTown four = townOfTens();
        owe(four, 6, 7, 3);
        owe(four, 7, 6, 3);
        for (int i = 0; i < 4; i++) {
            owe(four, i, (i + 1) % 4, 2);
        }
        ring(four, 0, 1, 2, 3);
    }

    /** Three of 20 and two of 30 are alike. */
    private static void ringsByFewest() {
        DayTown town = townOfTens();
        owe(town, 0, 1, 2);
        owe(town, 1, 2, 2);
        owe(town, 2, 0, 2);
        owe(town, 6, 7, 3);
        owe(town, 7, 6, 4);
        ring(town, 6, 7);
        CHECK.due("leaves", town.leaves(0, town.count(1)), 10);
        owe(town, 2, 0, 5);
        ring(town, 6, 7);
        owe(town, 0, 1, 1);
        owe(town, 1, 2, 1);
        ring(town, 0, 1, 2);
    }

    private static void ringsByFirst() {
        DayTown town = townOfTens();
        owe(town, 3, 4, 1);
        owe(town, 4, 3, 1);
        owe(town, 1, 6, 1);
        owe(town, 6, 1, 1);
        ring(town, 1, 6);
        owe(town, 5, 1, 1);
        owe(town, 1, 5, 1);
        ring(town, 1, 5);
        DayTown way = townOfTens();
        owe(way, 0, 2, 1);
        owe(way, 2, 1, 1);
        owe(way, 1, 0, 1);
        ring(way, 0, 2, 1);
        owe(way, 0, 1, 1);
        ring(way, 0, 2, 1);
        owe(way, 1, 2, 1);
        owe(way, 2, 0, 1);
        ring(way, 0, 1, 2);
    }

    private static void ringsOfSmallSums() {
        DayTown town = townOfTens();
        Check.readText(town, "grows 1;");
        owe(town, 0, 1, 2);
        owe(town, 1, 0, 1);
        ring(town, 0, 1);
        CHECK.due("leaves", town.leaves(0, 3), 1);
        DayTown other = townOfTens();
        Check.readText(other, "grows 1;");
        owe(other, 0, 1, 1);
        owe(other, 1, 0, 2);
        ring(other, 0, 1);
        CHECK.due("leaves", other.leaves(0, 3), 1);
        Check.readText(other, "grows 0;");
        ring(other);
        CHECK.due("leaves", other.leaves(0, 3), 0);
    }

    private static void meetings() {
        DayTown town = townOfTens();
        owe(town, 0, 1, 3);
        owe(town, 1, 2, 2);
        owe(town, 2, 0, 2);
        owe(town, 1, 0, 1);
        owe(town, 3, 0, 4);
        int n = town.count(1);
        ring(town, 0, 1, 2);
        CHECK.due("leaves", town.leaves(0, n), 40);
        town.meeting(0);
        CHECK.due("0 owes 1", town.owes(0, 1, 0, n + 1), 0);
        CHECK.due("1 owes 2", town.owes(1, 2, 0, n + 1), 0);
        CHECK.due("1 owes 0", town.owes(1, 0, 0, n + 1), 0);
        CHECK.due("3 owes 0", town.owes(3, 0, 0, n + 1), 40);
        CHECK.due("0 owes 1 ahead of it", town.owes(0, 1, 0, n), 30);
        CHECK.due("nothing leaves by n", town.leaves(0, n), 40);
        CHECK.due("nets stay", town.net(0, 0, n + 1), town.net(0, 0, n));
        ring(town);
        CHECK.due("a meeting of none", town.meeting(0), n + 1);
        CHECK.due("is not void", town.isVoid(n + 1, n + 2), 0);
        CHECK.due("leaves as it was", town.leaves(0, n + 2), 40);
        town.forged(n);
        CHECK.due("the next one meets", town.owes(0, 1, 0, n + 3), 0);
        town.forged(n + 1);
        CHECK.due("nothing is met", town.owes(0, 1, 0, n + 4), 30);
        CHECK.due("it is void", town.isVoid(n, n + 4), 1);
    }

    /** A meeting stands in its place among the papers of its day; one that was told late is held early. */
    private static void meetingsInTime() {
        DayTown town = Check.townOf(2);
        town.loan(1, 0, 0, 20, 1);
        town.loan(2, 1, 1, 20, 0);
        town.loan(3, 0, 0, 21, 1);
        town.meeting(2);
        town.loan(2, 1, 1, 22, 0);
        CHECK.due("ahead of all", town.owes(1, 0, 0, 5), 0);
        CHECK.due("on 1", town.owes(1, 0, 1, 5), 11);
        CHECK.due("on 2 the ring is met", town.owes(1, 0, 2, 5), 0);
        CHECK.due("on 2 behind the meeting", town.owes(0, 1, 2, 5), 11);
        CHECK.due("on 3", town.owes(1, 0, 3, 5), 11);
        CHECK.due("ring on 3", town.ring(3, 5, 0), 0);
        CHECK.due("ring on 2", town.ring(2, 5, 0), -1);
        CHECK.due("leaves on 1", town.leaves(1, 5), 11);
        CHECK.due("leaves on 2", town.leaves(2, 5), 11);
        CHECK.due("leaves on 3", town.leaves(3, 5), 0);
        CHECK.due("what is met can't be paid", town.pays(2, 1, 1, 30, 0), 5);
        CHECK.due("it is void", town.isVoid(5, 6), 5);
    }

    private static void ringOfEight() {
        DayTown town = townOfTens();
        for (int i = 0; i < 8; i++) {
            owe(town, i, (i + 3) % 8, 1);
        }
        ring(town, 0, 3, 6, 1, 4, 7, 2, 5);
        CHECK.due("leaves", town.leaves(0, town.count(1)), 0);
        owe(town, 0, 6, 2);
        ring(town, 0, 3, 6, 1, 4, 7, 2, 5);
        CHECK.due("leaves", town.leaves(0, town.count(1)), 20);
        town.meeting(0);
        CHECK.due("0 owes 6", town.owes(0, 6, 0, town.count(1)), 20);
        CHECK.due("5 owes 0", town.owes(5, 0, 0, town.count(1)), 0);
    }

    private static void wrongQuestions() {
        DayTown town = Check.townOf(2);
        town.loan(0, 0, 0, 5, 1);
        town.loan(0, 1, 1, 5, 0);
        int[] noDays = {-1, 400, Integer.MIN_VALUE, Integer.MAX_VALUE};
        int[] noViews = {-1, 3, 121, Integer.MIN_VALUE, Integer.MAX_VALUE};
        CHECK.due("owes of 2", town.owes(2, 0, 5, 2), -1);
        CHECK.due("owes to 2", town.owes(0, 2, 5, 2), -1);
        CHECK.due("owes of -1", town.owes(-1, 0, 5, 2), -1);
        CHECK.due("owes to -1", town.owes(0, -1, 5, 2), -1);
        for (int day : noDays) {
            CHECK.due("owes on " + day, town.owes(1, 0, day, 2), -1);
            CHECK.due("ring on " + day, town.ring(day, 2, 0), -1);
            CHECK.due("leaves on " + day, town.leaves(day, 2), -1);
        }
        for (int n : noViews) {
            CHECK.due("owes by " + n, town.owes(1, 0, 5, n), -1);
            CHECK.due("ring by " + n, town.ring(5, n, 0), -1);
            CHECK.due("leaves by " + n, town.leaves(5, n), -1);
        }
        CHECK.due("ring", town.ring(5, 2, 1), 1);
        CHECK.due("ring most", town.ring(5, 2, Integer.MAX_VALUE), -1);
        CHECK.due("ring least", town.ring(5, 2, Integer.MIN_VALUE), -1);
    }
}
