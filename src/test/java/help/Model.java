import java.util.ArrayList;
import java.util.Comparator;
import java.util.HashSet;
import java.util.List;
import java.util.Set;
import java.util.regex.Matcher;
import java.util.regex.Pattern;

/**
 * The document once more, in the slowest and plainest way, to compare the class with.
 * It shares no way of working with it: the law is a tree of functions, a leaf is the list of all
 * its holders, rings are all listed and sorted, and nothing is kept from one question to the next.
 */
final class Model {
    static final int NONE = -1;

    private enum Kind { LOAN, PAYMENT, MEETING, FORGED, FEAST, SEEN }

    private record Fact(Kind kind, int number, int made, int from, int person, int day, int to) {
        boolean isPaper() {
            return kind == Kind.LOAN || kind == Kind.PAYMENT || kind == Kind.MEETING;
        }
    }

    private interface Worth {
        int of(int[] vars);
    }

    private record Rule(boolean isBan, Worth growth, Worth condition) {
    }

    private static final class Fault extends Exception {
        private static final long serialVersionUID = 1L;
        final int number;
        final int place;

        Fault(int number, int place) {
            this.number = number;
            this.place = place;
        }
    }

    private record Token(String text, int place) {
    }

    private static final List<String> VARS =
            List.of("gives", "takes", "feast", "ahead", "chain", "own", "owes", "all", "age");
    private static final Pattern TOKEN =
            Pattern.compile("[a-z]+|[0-9]+|==|!=|<=|<|[;+\\-*()]|[\\x00-\\xff]");

    /** The law's text, taken token by token. */
    private static final class Text {
        private final List<Token> tokens = new ArrayList<>();
        private int at = 0;
        private int depth = 0;
        private final List<Rule> rules = new ArrayList<>();

        Text(String text) {
            Matcher matcher = TOKEN.matcher(text);
            int from = 0;
            while (from < text.length()) {
                if (" \t\n\r".indexOf(text.charAt(from)) >= 0) {
                    from++;
                } else {
                    matcher.find(from);
                    tokens.add(new Token(matcher.group(), from));
                    from = matcher.end();
                }
            }
            tokens.add(new Token("", text.length()));
        }

        String ahead() {
            return tokens.get(at).text();
        }

        boolean isAhead(String... some) {
            return List.of(some).contains(ahead());
        }

        Fault syntax() {
            return new Fault(1, tokens.get(at).place());
        }

        /** Only a token that fits is taken, so what is taken can lack nothing but room. */
        String take() throws Fault {
            if (at >= 400) {
                throw new Fault(2, tokens.get(at).place());
            }
            at++;
            return tokens.get(at - 1).text();
        }

        String take(String... some) throws Fault {
            if (!isAhead(some)) {
                throw syntax();
            }
            return take();
        }

        List<Rule> rules() throws Fault {
            while (!ahead().isEmpty()) {
                if (isAhead("ban", "grows") && rules.size() == 16) {
                    throw new Fault(2, tokens.get(at).place());
                }
                if (take("ban", "grows").equals("ban")) {
                    take("if");
                    rules.add(new Rule(true, null, condition()));
                } else {
                    Worth growth = sum();
                    Worth condition = null;
                    if (isAhead("if")) {
                        take("if");
                        condition = condition();
                    }
                    rules.add(new Rule(false, growth, condition));
                }
                take(";");
            }
            return rules;
        }

        Worth condition() throws Fault {
            Worth left = all();
            while (isAhead("or")) {
                take("or");
                Worth a = left;
                Worth b = all();
                left = vars -> a.of(vars) != 0 || b.of(vars) != 0 ? 1 : 0;
            }
            return left;
        }

        Worth all() throws Fault {
            Worth left = relation();
            while (isAhead("and")) {
                take("and");
                Worth a = left;
                Worth b = relation();
                left = vars -> a.of(vars) != 0 && b.of(vars) != 0 ? 1 : 0;
            }
            return left;
        }

        Worth relation() throws Fault {
            Worth a = sum();
            String sign = take("==", "!=", "<", "<=");
            Worth b = sum();
            switch (sign) {
                case "==": return vars -> a.of(vars) == b.of(vars) ? 1 : 0;
                case "!=": return vars -> a.of(vars) != b.of(vars) ? 1 : 0;
                case "<": return vars -> a.of(vars) < b.of(vars) ? 1 : 0;
                default: return vars -> a.of(vars) <= b.of(vars) ? 1 : 0;
            }
        }

        Worth sum() throws Fault {
            Worth left = part();
            while (isAhead("+", "-")) {
                boolean plus = take().equals("+");
                Worth a = left;
                Worth b = part();
                left = plus ? vars -> a.of(vars) + b.of(vars) : vars -> a.of(vars) - b.of(vars);
            }
            return left;
        }

        Worth part() throws Fault {
            Worth left = unit();
            while (isAhead("*")) {
                take("*");
                Worth a = left;
                Worth b = unit();
                left = vars -> a.of(vars) * b.of(vars);
            }
            return left;
        }

        Worth unit() throws Fault {
            String text = ahead();
            if (text.equals("(")) {
                int place = tokens.get(at).place();
                take();
                if (++depth > 6) {
                    throw new Fault(2, place);
                }
                Worth inner = sum();
                take(")");
                depth--;
                return inner;
            }
            if (text.matches("[0-9]{1,4}")) {
                int value = Integer.parseInt(take());
                return vars -> value;
            }
            int which = VARS.indexOf(text);
            if (which < 0) {
                throw syntax();
            }
            take();
            return vars -> vars[which];
        }
    }

    /** What follows from the first n facts. */
    private final class View {
        final List<List<List<Integer>>> holders = new ArrayList<>();
        final int[] reason = new int[120];
        final int[] rule = new int[120];
        final List<Fact> order = new ArrayList<>();
        final int n;

        /** Papers made behind the day are left out; the whole view is that of the last day. */
        int[][] debts = new int[8][8];

        View(int n, int lastDay) {
            this.n = n;
            for (int person = 0; person < 8; person++) {
                List<List<Integer>> leaves = new ArrayList<>();
                for (int day = 0; day < 400; day++) {
                    leaves.add(new ArrayList<>(List.of(person)));
                }
                holders.add(leaves);
            }
            for (Fact fact : facts.subList(0, n)) {
                if (fact.isPaper() && fact.made() <= lastDay) {
                    order.add(fact);
                }
            }
            order.sort(Comparator.comparingInt(Fact::made).thenComparingInt(Fact::number));
            for (Fact paper : order) {
                hold(paper);
            }
        }

        boolean isForged(Fact paper) {
            return facts.subList(0, n).stream()
                    .anyMatch(fact -> fact.kind() == Kind.FORGED && fact.person() == paper.number());
        }

        boolean isFeast(int day) {
            boolean is = false;
            for (Fact fact : facts.subList(0, n)) {
                if (fact.kind() == Kind.FEAST && fact.day() == day) {
                    is = fact.person() == 1;
                }
            }
            return is;
        }

        List<Integer> chainOf(int person, int day) {
            return holders.get(person).get(day);
        }

        int holder(int person, int day) {
            List<Integer> chain = chainOf(person, day);
            return chain.get(chain.size() - 1);
        }

        int awake(int person, int day) {
            int times = 0;
            for (int owner = 0; owner < lived.size(); owner++) {
                times += holder(owner, day) == person ? 1 : 0;
            }
            return times;
        }

        int age(int person, int day) {
            int age = lived.get(person);
            for (int each = 0; each <= day; each++) {
                age += awake(person, each);
            }
            return age;
        }

        int all(int person) {
            int sum = 0;
            for (int other = 0; other < 8; other++) {
                sum += debts[person][other];
            }
            return sum;
        }

        int[] varsOf(Fact loan) {
            int others = chainOf(loan.person(), loan.day()).size() - 1;
            return new int[] {loan.from(), loan.to(), isFeast(loan.day()) ? 1 : 0,
                loan.day() - loan.made(), others, loan.person() == loan.from() ? 1 : 0,
                debts[loan.to()][loan.from()], all(loan.to()), age(loan.to(), loan.made())};
        }

        int firstRule(boolean isBan, int[] vars) {
            for (int i = 0; i < law.size(); i++) {
                Rule each = law.get(i);
                if (each.isBan() == isBan
                        && (each.condition() == null || each.condition().of(vars) != 0)) {
                    return i;
                }
            }
            return NONE;
        }

        int whyVoid(Fact paper) {
            if (isForged(paper)) {
                return 1;
            }
            if (paper.kind() == Kind.MEETING) {
                return 0;
            }
            if (holder(paper.person(), paper.day()) != paper.from()) {
                return 2;
            }
            if (paper.day() <= paper.made()) {
                return 3;
            }
            if (paper.kind() == Kind.LOAN && firstRule(true, varsOf(paper)) != NONE) {
                return 4;
            }
            if (paper.kind() == Kind.PAYMENT && debts[paper.from()][paper.to()] == 0) {
                return 5;
            }
            return 0;
        }

        void hold(Fact paper) {
            int why = whyVoid(paper);
            reason[paper.number()] = why;
            rule[paper.number()] = why == 4 ? firstRule(true, varsOf(paper)) : NONE;
            if (why != 0) {
                return;
            }
            if (paper.kind() == Kind.MEETING) {
                meet();
                return;
            }
            if (paper.kind() == Kind.LOAN) {
                int[] vars = varsOf(paper);
                int growing = firstRule(false, vars);
                int more = growing == NONE ? 11 : law.get(growing).growth().of(vars);
                more = more < 0 ? 0 : more > 100 ? 100 : more;
                rule[paper.number()] = growing == NONE ? -2 : growing;
                debts[paper.to()][paper.from()] += more;
            } else {
                int less = debts[paper.from()][paper.to()] - 10;
                debts[paper.from()][paper.to()] = less < 0 ? 0 : less;
            }
            chainOf(paper.person(), paper.day()).add(paper.to());
        }

        int least(List<Integer> ring) {
            int least = Integer.MAX_VALUE;
            for (int i = 0; i < ring.size(); i++) {
                least = Math.min(least, debts[ring.get(i)][ring.get((i + 1) % ring.size())]);
            }
            return least;
        }

        void lengthen(List<Integer> ring, List<List<Integer>> rings) {
            if (ring.size() >= 2 && least(ring) > 0) {
                rings.add(new ArrayList<>(ring));
            }
            for (int next = ring.get(0) + 1; next < 8; next++) {
                if (!ring.contains(next) && debts[ring.get(ring.size() - 1)][next] > 0) {
                    ring.add(next);
                    lengthen(ring, rings);
                    ring.remove(ring.size() - 1);
                }
            }
        }

        int compare(List<Integer> one, List<Integer> other) {
            int met = Integer.compare(least(other) * other.size(), least(one) * one.size());
            if (met != 0) {
                return met;
            }
            if (one.size() != other.size()) {
                return Integer.compare(one.size(), other.size());
            }
            return one.toString().compareTo(other.toString());
        }

        List<Integer> firstRing() {
            List<List<Integer>> rings = new ArrayList<>();
            for (int person = 0; person < 8; person++) {
                lengthen(new ArrayList<>(List.of(person)), rings);
            }
            rings.sort(this::compare);
            return rings.isEmpty() ? List.of() : rings.get(0);
        }

        void meet() {
            List<Integer> ring = firstRing();
            while (!ring.isEmpty()) {
                int least = least(ring);
                for (int i = 0; i < ring.size(); i++) {
                    debts[ring.get(i)][ring.get((i + 1) % ring.size())] -= least;
                }
                ring = firstRing();
            }
        }

        boolean counts(Fact seen) {
            return seen.from() != seen.to() && awake(seen.from(), seen.day()) > 0;
        }

        int named(int who, int deed, int day) {
            Set<Integer> heard = new HashSet<>();
            int times = 0;
            for (int i = n - 1; i >= 0; i--) {
                Fact fact = facts.get(i);
                if (fact.kind() == Kind.SEEN && fact.person() == deed && fact.day() == day
                        && heard.add(fact.from()) && fact.to() == who && counts(fact)) {
                    times++;
                }
            }
            return times;
        }

        boolean isDoer(int who, int deed, int day) {
            if (awake(who, day) == 0 || named(who, deed, day) == 0) {
                return false;
            }
            for (int other = 0; other < lived.size(); other++) {
                if (other != who && awake(other, day) > 0
                        && named(other, deed, day) >= named(who, deed, day)) {
                    return false;
                }
            }
            return true;
        }
    }

    private final List<Integer> lived = new ArrayList<>();
    private final List<Fact> facts = new ArrayList<>();
    private final StringBuilder tape = new StringBuilder();
    private List<Rule> law = new ArrayList<>();
    private int place = NONE;

    int feed(int a, int b, int c, int d, int e) {
        if (tape.length() > 1980) {
            return NONE;
        }
        for (int four : new int[] {a, b, c, d, e}) {
            tape.append((char) (four >>> 24)).append((char) (four >>> 16 & 255));
            tape.append((char) (four >>> 8 & 255)).append((char) (four & 255));
        }
        return tape.length();
    }

    int back(int n) {
        if (n < 0 || n > tape.length()) {
            return NONE;
        }
        tape.setLength(tape.length() - n);
        return tape.length();
    }

    int read() {
        Text text = new Text(tape.toString());
        tape.setLength(0);
        try {
            law = text.rules();
            place = NONE;
            return 0;
        } catch (Fault fault) {
            place = fault.place;
            return fault.number;
        }
    }

    int place() {
        return place;
    }

    int person(int days) {
        if (lived.size() == 8 || days < 0 || days > 40000) {
            return NONE;
        }
        lived.add(days);
        return lived.size() - 1;
    }

    private boolean no(int... persons) {
        for (int person : persons) {
            if (person < 0 || person >= lived.size()) {
                return true;
            }
        }
        return false;
    }

    private boolean noDay(int day) {
        return day < 0 || day > 399;
    }

    private boolean noView(int n) {
        return n < 0 || n > facts.size();
    }

    private int tell(Kind kind, int made, int from, int person, int day, int to) {
        if (facts.size() == 120) {
            return NONE;
        }
        facts.add(new Fact(kind, facts.size(), made, from, person, day, to));
        return facts.size() - 1;
    }

    int loan(int made, int from, int person, int day, int to) {
        boolean wrong = no(from, person, to) || noDay(made) || noDay(day) || from == to;
        return wrong ? NONE : tell(Kind.LOAN, made, from, person, day, to);
    }

    int pays(int made, int from, int person, int day, int to) {
        boolean wrong = no(from, person, to) || noDay(made) || noDay(day) || from == to;
        return wrong ? NONE : tell(Kind.PAYMENT, made, from, person, day, to);
    }

    int meeting(int made) {
        return noDay(made) ? NONE : tell(Kind.MEETING, made, NONE, NONE, NONE, NONE);
    }

    int forged(int fact) {
        boolean wrong = fact < 0 || fact >= facts.size() || !facts.get(fact).isPaper();
        return wrong ? NONE : tell(Kind.FORGED, NONE, NONE, fact, NONE, NONE);
    }

    int feast(int day, boolean is) {
        return noDay(day) ? NONE : tell(Kind.FEAST, NONE, NONE, is ? 1 : 0, day, NONE);
    }

    int seen(int witness, int doer, int deed, int day) {
        boolean wrong = no(witness, doer) || deed < 0 || deed > 9 || noDay(day);
        return wrong ? NONE : tell(Kind.SEEN, NONE, witness, deed, day, doer);
    }

    private Fact known(int fact, int n) {
        return noView(n) || fact < 0 || fact >= n ? null : facts.get(fact);
    }

    private View view(int n) {
        return new View(n, 399);
    }

    int isVoid(int fact, int n) {
        Fact paper = known(fact, n);
        return paper == null || !paper.isPaper() ? NONE : view(n).reason[fact];
    }

    int holder(int person, int day, int n) {
        return no(person) || noDay(day) || noView(n) ? NONE : view(n).holder(person, day);
    }

    int chain(int person, int day, int i, int n) {
        if (no(person) || noDay(day) || noView(n)) {
            return NONE;
        }
        List<Integer> chain = view(n).chainOf(person, day);
        return i < 0 || i >= chain.size() ? NONE : chain.get(i);
    }

    int awake(int person, int day, int n) {
        return no(person) || noDay(day) || noView(n) ? NONE : view(n).awake(person, day);
    }

    int age(int person, int day, int n) {
        return no(person) || noDay(day) || noView(n) ? NONE : view(n).age(person, day);
    }

    int owes(int one, int other, int day, int n) {
        boolean wrong = no(one, other) || noDay(day) || noView(n);
        return wrong ? NONE : new View(n, day).debts[one][other];
    }

    int net(int person, int day, int n) {
        if (no(person) || noDay(day) || noView(n)) {
            return 0;
        }
        int[][] debts = new View(n, day).debts;
        int net = 0;
        for (int other = 0; other < 8; other++) {
            net += debts[person][other] - debts[other][person];
        }
        return net;
    }

    int ring(int day, int n, int i) {
        if (noDay(day) || noView(n)) {
            return NONE;
        }
        List<Integer> ring = new View(n, day).firstRing();
        return i < 0 || i >= ring.size() ? NONE : ring.get(i);
    }

    int leaves(int day, int n) {
        if (noDay(day) || noView(n)) {
            return NONE;
        }
        View view = new View(n, day);
        view.meet();
        int sum = 0;
        for (int person = 0; person < 8; person++) {
            sum += view.all(person);
        }
        return sum;
    }

    int grows(int fact, int n) {
        Fact paper = known(fact, n);
        if (paper == null || paper.kind() != Kind.LOAN || view(n).reason[fact] != 0) {
            return NONE;
        }
        return view(n).rule[fact];
    }

    int ban(int fact, int n) {
        Fact paper = known(fact, n);
        if (paper == null || paper.kind() != Kind.LOAN || view(n).reason[fact] != 4) {
            return NONE;
        }
        return view(n).rule[fact];
    }

    int counts(int fact, int n) {
        Fact seen = known(fact, n);
        if (seen == null || seen.kind() != Kind.SEEN) {
            return NONE;
        }
        return view(n).counts(seen) ? 1 : 0;
    }

    int doer(int deed, int day, int n) {
        if (deed < 0 || deed > 9 || noDay(day) || noView(n)) {
            return NONE;
        }
        View view = view(n);
        for (int person = 0; person < lived.size(); person++) {
            if (view.isDoer(person, deed, day)) {
                return person;
            }
        }
        return NONE;
    }

    int turned(int n, int m) {
        if (noView(n) || noView(m)) {
            return NONE;
        }
        View one = view(n);
        View other = view(m);
        for (Fact fact : facts.subList(0, Math.min(n, m))) {
            boolean isVoid = one.reason[fact.number()] != 0;
            if (fact.isPaper() && isVoid != (other.reason[fact.number()] != 0)) {
                return fact.number();
            }
        }
        return NONE;
    }

    int count(int what) {
        switch (what) {
            case 0: return lived.size();
            case 1: return facts.size();
            case 2: return (int) facts.stream().filter(Fact::isPaper).count();
            case 3: return law.size();
            case 4: return tape.length();
            default: return NONE;
        }
    }
}
