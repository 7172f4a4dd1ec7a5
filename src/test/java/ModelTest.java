import java.util.Random;

/** Runs of calls made up by fixed seeds, each answer compared with that of the plain model. */
public final class ModelTest {
    private static final int RUNS = 400;
    private static final int CALLS = 512;
    private static final int CALLS_OF_A_LAW = 104;
    private static final String[] VARS =
        {"gives", "takes", "feast", "ahead", "chain", "own", "owes", "all", "age"};
    private static final String[] SIGNS = {"==", "!=", "<", "<="};

    private final Check check;
    private final Random random;
    private final int seed;
    private final int days;
    private final DayTown town = new DayTown();
    private final Model model = new Model();
    private int calls = 0;

    private ModelTest(Check check, int seed) {
        this.check = check;
        this.seed = seed;
        random = new Random(seed);
        days = new int[] {3, 6, 12, 60, 400}[random.nextInt(5)];
    }

    public static void main(String[] args) {
        Check check = new Check("ModelTest");
        for (int seed = 1; seed <= RUNS; seed++) {
            new ModelTest(check, seed).run();
        }
        check.end();
    }

    private void run() {
        int persons = 1 + random.nextInt(8);
        for (int i = 0; i < persons; i++) {
            int lived = random.nextInt(3) == 0 ? random.nextInt(40001) : random.nextInt(20);
            due("person(" + lived + ")", town.person(lived), model.person(lived));
        }
        boolean isDense = random.nextInt(6) == 0;
        int asked = isDense ? 40 : 1 + random.nextInt(5);
        if (isDense) {
            lendAmongAll();
        }
        while (calls < CALLS) {
            int what = random.nextInt(asked + 1);
            if (what == 0) {
                tell();
            } else {
                ask();
            }
        }
    }

    private void due(String call, int got, int want) {
        calls++;
        check.due("seed " + seed + ", call " + calls + ": " + call, got, want);
    }

    /** Days that just begin, so that most papers hold, and rings of all sizes come up. */
    private void lendAmongAll() {
        for (int i = 0; i < 100; i++) {
            int from = random.nextInt(8);
            int to = random.nextInt(8);
            int made = random.nextInt(3);
            int day = 10 + i;
            due("loan", town.loan(made, from, from, day, to), model.loan(made, from, from, day, to));
        }
        int made = 1 + random.nextInt(3);
        due("meeting", town.meeting(made), model.meeting(made));
    }

    private int person() {
        return random.nextInt(30) == 0 ? random.nextInt(11) - 1 : random.nextInt(Math.max(1, model.count(0)));
    }

    private int day() {
        if (random.nextInt(40) == 0) {
            return new int[] {-1, 400, 399, Integer.MIN_VALUE, Integer.MAX_VALUE}[random.nextInt(5)];
        }
        return random.nextInt(days);
    }

    private int view() {
        if (random.nextInt(30) == 0) {
            return random.nextInt(123) - 1;
        }
        int facts = model.count(1);
        return random.nextInt(3) == 0 ? random.nextInt(facts + 1) : facts;
    }

    private int fact() {
        return random.nextInt(25) == 0 ? random.nextInt(122) - 1 : random.nextInt(Math.max(1, model.count(1)));
    }

    private void tell() {
        int what = random.nextInt(22);
        if (what < 10) {
            tellGift(what < 7);
        } else if (what < 12) {
            int made = day();
            due("meeting(" + made + ")", town.meeting(made), model.meeting(made));
        } else if (what < 13) {
            int fact = fact();
            due("forged(" + fact + ")", town.forged(fact), model.forged(fact));
        } else if (what < 15) {
            int day = day();
            boolean is = random.nextInt(3) > 0;
            due("feast(" + day + ", " + is + ")", town.feast(day, is), model.feast(day, is));
        } else if (what < 19) {
            int witness = person();
            int doer = random.nextInt(2) == 0 ? person() : 0;
            int deed = random.nextInt(20) == 0 ? random.nextInt(13) - 1 : random.nextInt(2);
            int day = random.nextInt(2) == 0 ? day() : 2;
            due("seen(" + witness + ", " + doer + ", " + deed + ", " + day + ")",
                    town.seen(witness, doer, deed, day), model.seen(witness, doer, deed, day));
        } else if (what < 20) {
            due("person(7)", town.person(7), model.person(7));
        } else if (calls + CALLS_OF_A_LAW <= CALLS) {
            tellLaw();
        }
    }

    private void tellGift(boolean isLoan) {
        int made = random.nextInt(3) == 0 ? day() : random.nextInt((days + 2) / 3);
        int person = person();
        int day = day();
        // A giver that is not the holder is nothing but void: let it be the holder mostly.
        int from = random.nextInt(4) == 0 ? person() : model.holder(person, day, model.count(1));
        int to = person();
        String call = "(" + made + ", " + from + ", " + person + ", " + day + ", " + to + ")";
        if (isLoan) {
            due("loan" + call, town.loan(made, from, person, day, to), model.loan(made, from, person, day, to));
        } else {
            due("pays" + call, town.pays(made, from, person, day, to), model.pays(made, from, person, day, to));
        }
    }

    private void tellLaw() {
        StringBuilder text = new StringBuilder();
        int rules = random.nextInt(random.nextInt(8) == 0 ? 20 : 5);
        for (int i = 0; i < rules; i++) {
            addRule(text);
        }
        while (random.nextInt(4) == 0 && text.length() > 0) {
            int at = random.nextInt(text.length());
            text.setCharAt(at, "abx5;+-*=!<() \t\n\r~\u00e9".charAt(random.nextInt(19)));
        }
        if (random.nextInt(20) == 0 && text.length() > 0) {
            text.setLength(random.nextInt(text.length()));
        }
        if (text.length() > 1980) {
            text.setLength(0);
        }
        feedBoth(text.toString());
        due("read() of " + text, town.read(), model.read());
        due("place()", town.place(), model.place());
        due("count(3)", town.count(3), model.count(3));
    }

    private void feedBoth(String text) {
        for (int at = 0; at < text.length(); at += 20) {
            int[] fours = new int[5];
            for (int i = 0; i < 20; i++) {
                int sign = at + i < text.length() ? text.charAt(at + i) : 32 + random.nextInt(90);
                fours[i / 4] = fours[i / 4] << 8 | sign;
            }
            due("feed", town.feed(fours[0], fours[1], fours[2], fours[3], fours[4]),
                    model.feed(fours[0], fours[1], fours[2], fours[3], fours[4]));
        }
        int over = (20 - text.length() % 20) % 20;
        due("back(" + over + ")", town.back(over), model.back(over));
    }

    private void addRule(StringBuilder text) {
        if (random.nextInt(3) == 0) {
            text.append("ban if ");
            addCondition(text);
        } else {
            text.append("grows ");
            addSum(text, 0);
            if (random.nextInt(3) > 0) {
                text.append(" if ");
                addCondition(text);
            }
        }
        text.append(random.nextBoolean() ? ";" : " ;\n");
    }

    private void addCondition(StringBuilder text) {
        addRelation(text);
        while (random.nextInt(3) == 0) {
            text.append(random.nextBoolean() ? " and " : " or ");
            addRelation(text);
        }
    }

    private void addRelation(StringBuilder text) {
        addSum(text, 0);
        text.append(SIGNS[random.nextInt(4)]);
        addSum(text, 0);
    }

    private void addSum(StringBuilder text, int depth) {
        addUnit(text, depth);
        while (random.nextInt(5) < 2) {
            text.append("+-*".charAt(random.nextInt(3)));
            addUnit(text, depth);
        }
    }

    private void addUnit(StringBuilder text, int depth) {
        int what = random.nextInt(10);
        if (what < 1 + depth / 2 && depth < 8) {
            text.append('(');
            addSum(text, depth + 1);
            text.append(')');
        } else if (what < 5) {
            text.append(random.nextInt(new int[] {3, 10, 100, 10000}[random.nextInt(4)]));
        } else {
            text.append(VARS[random.nextInt(9)]);
        }
    }

    private void ask() {
        int n = view();
        int day = day();
        int one = person();
        int other = person();
        int fact = fact();
        int i = random.nextInt(10) - 1;
        String known = " day " + day + " n " + n;
        switch (random.nextInt(16)) {
            case 0: due("isVoid " + fact + known, town.isVoid(fact, n), model.isVoid(fact, n)); break;
            case 1: due("holder " + one + known, town.holder(one, day, n), model.holder(one, day, n)); break;
            case 2: due("chain " + one + " i " + i + known, town.chain(one, day, i, n), model.chain(one, day, i, n)); break;
            case 3: due("awake " + one + known, town.awake(one, day, n), model.awake(one, day, n)); break;
            case 4: due("age " + one + known, town.age(one, day, n), model.age(one, day, n)); break;
            case 5: due("owes " + one + " " + other + known, town.owes(one, other, day, n), model.owes(one, other, day, n)); break;
            case 6: due("net " + one + known, town.net(one, day, n), model.net(one, day, n)); break;
            case 7: due("ring " + i + known, town.ring(day, n, i), model.ring(day, n, i)); break;
            case 8: due("leaves" + known, town.leaves(day, n), model.leaves(day, n)); break;
            case 9: due("grows " + fact + known, town.grows(fact, n), model.grows(fact, n)); break;
            case 10: due("ban " + fact + known, town.ban(fact, n), model.ban(fact, n)); break;
            case 11: due("counts " + fact + known, town.counts(fact, n), model.counts(fact, n)); break;
            case 12: due("doer 0" + known, town.doer(0, day, n), model.doer(0, day, n)); break;
            case 13: due("doer " + i + " at 2" + known, town.doer(i, 2, n), model.doer(i, 2, n)); break;
            case 14:
                int m = view();
                due("turned " + n + " " + m, town.turned(n, m), model.turned(n, m));
                break;
            default:
                int what = random.nextInt(8) - 1;
                due("count " + what, town.count(what), model.count(what));
                break;
        }
    }
}
