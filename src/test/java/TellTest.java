/** Promises 6 to 12 and 27: who there is, what is told, and how many there are. */
public final class TellTest {
    private static final Check CHECK = new Check("TellTest");
    private static final int[] NO_DAYS = {-1, 400, Integer.MIN_VALUE, Integer.MAX_VALUE};
    private static final int[] NO_PERSONS = {-1, 3, 8, Integer.MIN_VALUE, Integer.MAX_VALUE};

    public static void main(String[] args) {
        persons();
        gifts();
        meetingsAndFeasts();
        forgeries();
        sightings();
        noMoreThan120();
        counts();
        CHECK.end();
    }

    private static void persons() {
        DayTown town = new DayTown();
        CHECK.due("person(-1)", town.person(-1), -1);
        CHECK.due("person(40001)", town.person(40001), -1);
        CHECK.due("person(least)", town.person(Integer.MIN_VALUE), -1);
        CHECK.due("person(most)", town.person(Integer.MAX_VALUE), -1);
        CHECK.due("count(0)", town.count(0), 0);
        CHECK.due("person(40000)", town.person(40000), 0);
        for (int i = 1; i < 8; i++) {
            CHECK.due("person(0)", town.person(0), i);
        }
        CHECK.due("a ninth", town.person(0), -1);
        CHECK.due("count(0)", town.count(0), 8);
        CHECK.due("age of the first", town.age(0, 0, 0), 40001);
        CHECK.due("age of the last", town.age(7, 399, 0), 400);
        CHECK.due("the last lends", town.loan(0, 7, 7, 1, 6), 0);
    }

    private static void nothing(String call, int got, DayTown town, int facts) {
        CHECK.due(call, got, -1);
        CHECK.due("facts behind " + call, town.count(1), facts);
    }

    private static void gifts() {
        DayTown town = Check.townOf(3);
        for (int day : NO_DAYS) {
            nothing("loan made " + day, town.loan(day, 0, 0, 9, 1), town, 0);
            nothing("loan of " + day, town.loan(0, 0, 0, day, 1), town, 0);
            nothing("pays made " + day, town.pays(day, 0, 0, 9, 1), town, 0);
            nothing("pays of " + day, town.pays(0, 0, 0, day, 1), town, 0);
        }
        for (int person : NO_PERSONS) {
            nothing("loan from " + person, town.loan(0, person, 0, 9, 1), town, 0);
            nothing("loan of " + person, town.loan(0, 0, person, 9, 1), town, 0);
            nothing("loan to " + person, town.loan(0, 0, 0, 9, person), town, 0);
            nothing("pays from " + person, town.pays(0, person, 0, 9, 1), town, 0);
            nothing("pays of " + person, town.pays(0, 0, person, 9, 1), town, 0);
            nothing("pays to " + person, town.pays(0, 0, 0, 9, person), town, 0);
        }
        nothing("loan to oneself", town.loan(0, 1, 0, 9, 1), town, 0);
        nothing("pays to oneself", town.pays(0, 1, 0, 9, 1), town, 0);
        CHECK.due("loan", town.loan(399, 0, 0, 0, 2), 0);
        CHECK.due("loan of the taker's", town.loan(0, 0, 2, 399, 2), 1);
        CHECK.due("pays", town.pays(0, 2, 1, 399, 0), 2);
        CHECK.due("pays made late", town.pays(399, 1, 2, 0, 0), 3);
        CHECK.due("papers", town.count(2), 4);
    }

    private static void meetingsAndFeasts() {
        DayTown town = new DayTown();
        for (int day : NO_DAYS) {
            nothing("meeting(" + day + ")", town.meeting(day), town, 0);
            nothing("feast(" + day + ")", town.feast(day, true), town, 0);
            nothing("no feast(" + day + ")", town.feast(day, false), town, 0);
        }
        CHECK.due("meeting(0)", town.meeting(0), 0);
        CHECK.due("meeting(399)", town.meeting(399), 1);
        CHECK.due("feast(0)", town.feast(0, true), 2);
        CHECK.due("feast(399)", town.feast(399, false), 3);
        CHECK.due("papers", town.count(2), 2);
        CHECK.due("facts", town.count(1), 4);
    }

    private static void forgeries() {
        DayTown town = Check.townOf(2);
        nothing("forged(0) of none", town.forged(0), town, 0);
        town.loan(0, 0, 0, 5, 1);
        town.pays(1, 1, 1, 5, 0);
        town.meeting(2);
        town.feast(5, true);
        town.seen(0, 1, 0, 0);
        nothing("forged(-1)", town.forged(-1), town, 5);
        nothing("forged(3), a feast", town.forged(3), town, 5);
        nothing("forged(4), a seen", town.forged(4), town, 5);
        nothing("forged(5), itself", town.forged(5), town, 5);
        nothing("forged(most)", town.forged(Integer.MAX_VALUE), town, 5);
        nothing("forged(least)", town.forged(Integer.MIN_VALUE), town, 5);
        CHECK.due("forged(0)", town.forged(0), 5);
        nothing("forged(5), a forged", town.forged(5), town, 6);
        CHECK.due("forged(1)", town.forged(1), 6);
        CHECK.due("forged(2)", town.forged(2), 7);
        CHECK.due("forged(0) again", town.forged(0), 8);
        CHECK.due("forged ones are papers still", town.count(2), 3);
        CHECK.due("isVoid(0)", town.isVoid(0, 9), 1);
        CHECK.due("isVoid(1)", town.isVoid(1, 9), 1);
        CHECK.due("isVoid(2)", town.isVoid(2, 9), 1);
        CHECK.due("isVoid(1) ahead of it", town.isVoid(1, 6), 5);
    }

    private static void sightings() {
        DayTown town = Check.townOf(3);
        for (int person : NO_PERSONS) {
            nothing("seen by " + person, town.seen(person, 0, 0, 0), town, 0);
            nothing("seen " + person, town.seen(0, person, 0, 0), town, 0);
        }
        for (int day : NO_DAYS) {
            nothing("seen on " + day, town.seen(0, 1, 0, day), town, 0);
        }
        nothing("seen deed -1", town.seen(0, 1, -1, 0), town, 0);
        nothing("seen deed 10", town.seen(0, 1, 10, 0), town, 0);
        CHECK.due("seen", town.seen(0, 2, 0, 399), 0);
        CHECK.due("seen deed 9", town.seen(2, 0, 9, 0), 1);
        CHECK.due("seen oneself", town.seen(1, 1, 5, 5), 2);
        CHECK.due("no papers", town.count(2), 0);
    }

    private static void noMoreThan120() {
        DayTown town = Check.townOf(7);
        for (int i = 0; i < 119; i++) {
            CHECK.due("loan " + i, town.loan(0, 0, 0, 1 + i, 1), i);
        }
        CHECK.due("the last", town.meeting(0), 119);
        nothing("a 121st loan", town.loan(0, 0, 0, 200, 1), town, 120);
        nothing("a 121st pays", town.pays(0, 0, 0, 200, 1), town, 120);
        nothing("a 121st meeting", town.meeting(0), town, 120);
        nothing("a 121st forged", town.forged(0), town, 120);
        nothing("a 121st feast", town.feast(0, true), town, 120);
        nothing("a 121st seen", town.seen(0, 1, 0, 0), town, 120);
        CHECK.due("papers", town.count(2), 120);
        CHECK.due("owes by all", town.owes(1, 0, 0, 120), 119 * 11);
        CHECK.due("owes by all but one", town.owes(1, 0, 0, 118), 118 * 11);
        CHECK.due("a person comes still", town.person(0), 7);
        CHECK.due("isVoid of the last", town.isVoid(119, 120), 0);
        CHECK.due("n above all", town.isVoid(119, 121), -1);
    }

    private static void counts() {
        DayTown town = Check.townOf(2);
        town.loan(0, 0, 0, 1, 1);
        town.feast(1, true);
        town.meeting(3);
        Check.readText(town, "grows 1; ban if 1 == 2;");
        Check.feedText(town, "abc");
        CHECK.due("count(0)", town.count(0), 2);
        CHECK.due("count(1)", town.count(1), 3);
        CHECK.due("count(2)", town.count(2), 2);
        CHECK.due("count(3)", town.count(3), 2);
        CHECK.due("count(4)", town.count(4), 3);
        CHECK.due("count(5)", town.count(5), -1);
        CHECK.due("count(-1)", town.count(-1), -1);
        CHECK.due("count(most)", town.count(Integer.MAX_VALUE), -1);
        CHECK.due("count(least)", town.count(Integer.MIN_VALUE), -1);
    }
}
