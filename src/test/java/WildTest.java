/** Whatever the arguments, no call throws, and what is out of all bounds is answered by NONE. */
public final class WildTest {
    private static final Check CHECK = new Check("WildTest");
    private static final int[] WILD = {
        Integer.MIN_VALUE, Integer.MIN_VALUE + 1, -401, -400, -9, -8, -2, -1,
        400, 401, 512, 3200, 65536, 1 << 30, Integer.MAX_VALUE - 1, Integer.MAX_VALUE};

    public static void main(String[] args) {
        for (int wild : WILD) {
            ask(new DayTown(), wild);
            ask(townWithAll(), wild);
        }
        CHECK.end();
    }

    private static DayTown townWithAll() {
        DayTown town = Check.townOf(8);
        Check.readText(town, "ban if age == 9999; grows owes * owes + 7 * ahead;");
        for (int i = 0; i < 30; i++) {
            town.loan(i % 4, i % 8, i % 8, 20 + i, (i + 1) % 8);
            town.loan(i % 4, (i + 1) % 8, i % 8, 20 + i, (i + 3) % 8);
            town.pays(3, (i + 1) % 8, (i + 1) % 8, 60 + i, i % 8);
        }
        town.meeting(4);
        town.forged(3);
        town.feast(21, true);
        town.seen(0, 1, 2, 3);
        return town;
    }

    private static void none(String call, int got) {
        CHECK.due(call, got, -1);
    }

    private static void ask(DayTown town, int wild) {
        int n = town.count(1);
        none("person " + wild, town.person(wild < 0 ? wild : Math.max(wild, 40001)));
        none("back " + wild, town.back(wild));
        none("meeting " + wild, town.meeting(wild));
        none("forged " + wild, town.forged(wild));
        none("feast " + wild, town.feast(wild, true));
        none("count " + wild, town.count(wild));
        gifts(town, wild);
        for (int view : new int[] {0, n, wild}) {
            none("isVoid " + wild, town.isVoid(wild, view));
            none("grows " + wild, town.grows(wild, view));
            none("ban " + wild, town.ban(wild, view));
            none("counts " + wild, town.counts(wild, view));
            none("turned " + wild, town.turned(wild, view));
            none("turned by " + wild, town.turned(view, wild));
            none("ring on " + wild, town.ring(wild, view, 0));
            none("ring i " + wild, town.ring(0, view, wild));
            none("leaves " + wild, town.leaves(wild, view));
            none("doer " + wild, town.doer(wild, 0, view));
            none("doer on " + wild, town.doer(0, wild, view));
            leafQuestions(town, wild, view);
        }
        for (int fact = -1; fact <= n; fact++) {
            none("isVoid by " + wild, town.isVoid(fact, wild));
        }
        CHECK.due("facts", town.count(1), n);
    }

    private static void gifts(DayTown town, int wild) {
        none("loan made " + wild, town.loan(wild, 0, 0, 9, 1));
        none("loan from " + wild, town.loan(0, wild, 0, 9, 1));
        none("loan of " + wild, town.loan(0, 0, wild, 9, 1));
        none("loan on " + wild, town.loan(0, 0, 0, wild, 1));
        none("loan to " + wild, town.loan(0, 0, 0, 9, wild));
        none("pays all " + wild, town.pays(wild, wild, wild, wild, wild));
        none("seen by " + wild, town.seen(wild, 0, 0, 0));
        none("seen " + wild, town.seen(0, wild, 0, 0));
        none("seen deed " + wild, town.seen(0, 1, wild, 0));
        none("seen on " + wild, town.seen(0, 1, 0, wild));
    }

    private static void leafQuestions(DayTown town, int wild, int view) {
        none("holder of " + wild, town.holder(wild, 0, view));
        none("holder on " + wild, town.holder(0, wild, view));
        none("chain of " + wild, town.chain(wild, 0, 0, view));
        none("chain on " + wild, town.chain(0, wild, 0, view));
        none("chain i " + wild, town.chain(0, 0, wild, view));
        none("awake of " + wild, town.awake(wild, 0, view));
        none("awake on " + wild, town.awake(0, wild, view));
        none("age of " + wild, town.age(wild, 0, view));
        none("age on " + wild, town.age(0, wild, view));
        none("owes of " + wild, town.owes(wild, 0, 0, view));
        none("owes to " + wild, town.owes(0, wild, 0, view));
        none("owes on " + wild, town.owes(0, 1, wild, view));
        CHECK.due("net of " + wild, town.net(wild, 0, view), 0);
        CHECK.due("net on " + wild, town.net(0, wild, view), 0);
    }
}
