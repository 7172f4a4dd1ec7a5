import java.util.Arrays;

/**
 * The court of a town where one may lend a day of one's own to another.
 *
 * What is told is kept as it was told; each question is answered by holding the
 * papers anew, as they are known by the first n facts. So a late or a forged
 * paper needs no undoing.
 */
public final class DayTown {
    public static final int NONE = -1;

    private static final int PERSONS = 8;
    private static final int FACTS = 120;
    private static final int DAYS = 400;
    private static final int DEEDS = 10;
    private static final int MOST_LIVED = 40000;
    private static final int MOST_BYTES = 2000;
    private static final int PAIRS = PERSONS * PERSONS;

    private static final int LOAN = 0;
    private static final int PAYMENT = 1;
    private static final int MEETING = 2;
    private static final int FORGED = 3;
    private static final int FEAST = 4;
    private static final int SEEN = 5;

    private static final int IS_FORGED = 1;
    private static final int NOT_HOLDER = 2;
    private static final int HAS_BEGUN = 3;
    private static final int BANNED = 4;
    private static final int OWES_NOTHING = 5;

    private static final int NO_RULE_GROWS = -2;
    private static final int GROWTH_WITHOUT_RULE = 11;
    private static final int MOST_GROWTH = 100;
    private static final int PAID = 10;

    private static final int SYNTAX = 1;
    private static final int ROOM = 2;
    private static final int MOST_TOKENS = 400;
    private static final int MOST_RULES = 16;
    private static final int MOST_DEPTH = 6;

    // The first five kinds of tokens, and behind them the VARS, stand as in WORDS.
    private static final int BAN = 0;
    private static final int IF = 1;
    private static final int GROWS = 2;
    private static final int OR = 3;
    private static final int AND = 4;
    private static final int VAR = 5;
    private static final int INT = 6;
    private static final int SEMICOLON = 7;
    private static final int PLUS = 8;
    private static final int MINUS = 9;
    private static final int TIMES = 10;
    private static final int EQUAL = 11;
    private static final int UNLIKE = 12;
    private static final int LESS = 13;
    private static final int AT_MOST = 14;
    private static final int OPEN = 15;
    private static final int CLOSE = 16;
    private static final int END = 17;
    private static final int NO_TOKEN = 18;

    private static final String WORDS =
            "ban  if   growsor   and  givestakesfeastaheadchainown  owes all  age  ";
    private static final int WORD_WIDTH = 5;
    private static final int WORD_COUNT = 14;

    private static final int VAR_GIVES = 0;
    private static final int VAR_TAKES = 1;
    private static final int VAR_FEAST = 2;
    private static final int VAR_AHEAD = 3;
    private static final int VAR_CHAIN = 4;
    private static final int VAR_OWN = 5;
    private static final int VAR_OWES = 6;
    private static final int VAR_ALL = 7;
    private static final int VAR_AGE = 8;
    private static final int VARS = 9;

    private final Book book = new Book();
    private final int[] tape = new int[MOST_BYTES];
    private int length = 0;
    private Law law = new Law();
    private Law spareLaw = new Law();
    private final Reader reader = new Reader(spareLaw);
    private int faultPlace = NONE;
    private int lawsRead = 0;
    // Two, so that a question about two n needs no third.
    private final Known known;
    private final Known otherKnown;
    private boolean knownIsOlder = true;

    public DayTown() {
        Rings rings = new Rings();
        known = new Known(book, rings);
        otherKnown = new Known(book, rings);
    }

    public int feed(int a, int b, int c, int d, int e) {
        if (length + 20 > MOST_BYTES) {
            return NONE;
        }
        putBytes(a);
        putBytes(b);
        putBytes(c);
        putBytes(d);
        putBytes(e);
        return length;
    }

    public int back(int n) {
        if (n < 0 || n > length) {
            return NONE;
        }
        length -= n;
        return length;
    }

    public int read() {
        int fault = reader.readText(tape, length, spareLaw);
        length = 0;
        faultPlace = reader.placeOfFault();
        if (fault == 0) {
            Law former = law;
            law = spareLaw;
            spareLaw = former;
            lawsRead++;
        }
        return fault;
    }

    public int place() {
        return faultPlace;
    }

    public int person(int lived) {
        return book.addPerson(lived);
    }

    public int loan(int made, int from, int person, int day, int to) {
        return tellGift(LOAN, made, from, person, day, to);
    }

    public int pays(int made, int from, int person, int day, int to) {
        return tellGift(PAYMENT, made, from, person, day, to);
    }

    public int meeting(int made) {
        return isDay(made) ? book.tell(MEETING, made, 0, 0, 0, 0) : NONE;
    }

    public int forged(int fact) {
        return book.isPaper(fact) ? book.tell(FORGED, 0, 0, fact, 0, 0) : NONE;
    }

    public int feast(int day, boolean is) {
        return isDay(day) ? book.tell(FEAST, 0, 0, is ? 1 : 0, day, 0) : NONE;
    }

    public int seen(int witness, int doer, int deed, int day) {
        if (!book.hasPerson(witness) || !book.hasPerson(doer) || !isDeed(deed) || !isDay(day)) {
            return NONE;
        }
        return book.tell(SEEN, 0, witness, deed, day, doer);
    }

    public int isVoid(int fact, int n) {
        return isKnownPaper(fact, n) ? knownBy(n).reasonOf(fact) : NONE;
    }

    public int holder(int person, int day, int n) {
        return isLeaf(person, day) && book.hasFirst(n) ? knownBy(n).holderOf(person, day) : NONE;
    }

    public int chain(int person, int day, int i, int n) {
        if (!isLeaf(person, day) || !book.hasFirst(n) || i < 0) {
            return NONE;
        }
        return knownBy(n).linkOf(person, day, i);
    }

    public int awake(int person, int day, int n) {
        return isLeaf(person, day) && book.hasFirst(n) ? knownBy(n).timesAwake(person, day) : NONE;
    }

    public int age(int person, int day, int n) {
        return isLeaf(person, day) && book.hasFirst(n) ? knownBy(n).ageOf(person, day) : NONE;
    }

    public int owes(int one, int other, int day, int n) {
        if (!isLeaf(one, day) || !book.hasPerson(other) || !book.hasFirst(n)) {
            return NONE;
        }
        Known view = knownBy(n);
        return view.debt(view.papersUpTo(day), one, other);
    }

    public int net(int person, int day, int n) {
        if (!isLeaf(person, day) || !book.hasFirst(n)) {
            return 0;
        }
        Known view = knownBy(n);
        int papers = view.papersUpTo(day);
        return view.owedBy(papers, person) - view.owedTo(papers, person);
    }

    public int ring(int day, int n, int i) {
        return isDay(day) && book.hasFirst(n) ? knownBy(n).firstRing(day).link(i) : NONE;
    }

    public int leaves(int day, int n) {
        return isDay(day) && book.hasFirst(n) ? knownBy(n).leftByMeeting(day) : NONE;
    }

    public int grows(int fact, int n) {
        return isKnownOf(LOAN, fact, n) ? knownBy(n).growsRule(fact) : NONE;
    }

    public int ban(int fact, int n) {
        return isKnownOf(LOAN, fact, n) ? knownBy(n).banRule(fact) : NONE;
    }

    public int counts(int fact, int n) {
        if (!isKnownOf(SEEN, fact, n)) {
            return NONE;
        }
        return knownBy(n).seenCounts(fact) ? 1 : 0;
    }

    public int doer(int deed, int day, int n) {
        return isDeed(deed) && isDay(day) && book.hasFirst(n) ? knownBy(n).doerOf(deed, day) : NONE;
    }

    public int turned(int n, int m) {
        if (!book.hasFirst(n) || !book.hasFirst(m)) {
            return NONE;
        }
        Known one = knownBy(n);
        Known other = knownBy(m);
        int both = Math.min(n, m);
        for (int fact = 0; fact < both; fact++) {
            if (book.isPaper(fact) && (one.reasonOf(fact) == 0) != (other.reasonOf(fact) == 0)) {
                return fact;
            }
        }
        return NONE;
    }

    public int count(int what) {
        switch (what) {
            case 0: return book.personCount();
            case 1: return book.factCount();
            case 2: return book.paperCount();
            case 3: return law.ruleCount();
            case 4: return length;
            default: return NONE;
        }
    }

    private void putBytes(int four) {
        for (int shift = 24; shift >= 0; shift -= 8) {
            put(tape, length, (four >> shift) & 255);
            length++;
        }
    }

    private int tellGift(int kind, int made, int from, int person, int day, int to) {
        if (!isDay(made) || !isLeaf(person, day)) {
            return NONE;
        }
        if (!book.hasPerson(from) || !book.hasPerson(to) || from == to) {
            return NONE;
        }
        return book.tell(kind, made, from, person, day, to);
    }

    private boolean isLeaf(int person, int day) {
        return book.hasPerson(person) && isDay(day);
    }

    private boolean isKnownPaper(int fact, int n) {
        return book.hasFirst(n) && fact < n && book.isPaper(fact);
    }

    private boolean isKnownOf(int kind, int fact, int n) {
        return book.hasFirst(n) && fact < n && book.kindOf(fact) == kind;
    }

    /** What was held last stays good: facts are never changed, and a new law has a new number. */
    private Known knownBy(int n) {
        if (known.isOf(n, lawsRead)) {
            knownIsOlder = false;
            return known;
        }
        if (otherKnown.isOf(n, lawsRead)) {
            knownIsOlder = true;
            return otherKnown;
        }
        Known older = knownIsOlder ? known : otherKnown;
        knownIsOlder = !knownIsOlder;
        older.learn(n, lawsRead, law);
        return older;
    }

    private static boolean isDay(int day) {
        return day >= 0 && day < DAYS;
    }

    private static boolean isDeed(int deed) {
        return deed >= 0 && deed < DEEDS;
    }

    private static int at(int[] row, int i) {
        return i >= 0 && i < row.length ? row[i] : 0;
    }

    private static void put(int[] row, int i, int value) {
        if (i >= 0 && i < row.length) {
            row[i] = value;
        }
    }

    /** Who there is, and what was told, in the order in which it was told. */
    private static final class Book {
        private final int[] lived = new int[PERSONS];
        private final int[] kinds = new int[FACTS];
        private final int[] dates = new int[FACTS];
        private final int[] ones = new int[FACTS];
        private final int[] things = new int[FACTS];
        private final int[] days = new int[FACTS];
        private final int[] others = new int[FACTS];
        private int persons = 0;
        private int facts = 0;
        private int papers = 0;

        int addPerson(int daysLived) {
            if (persons >= PERSONS || daysLived < 0 || daysLived > MOST_LIVED) {
                return NONE;
            }
            put(lived, persons, daysLived);
            persons++;
            return persons - 1;
        }

        /** The columns that a kind has no use for are 0. */
        int tell(int kind, int made, int one, int thing, int day, int other) {
            if (facts >= FACTS) {
                return NONE;
            }
            put(kinds, facts, kind);
            put(dates, facts, made);
            put(ones, facts, one);
            put(things, facts, thing);
            put(days, facts, day);
            put(others, facts, other);
            papers += kind <= MEETING ? 1 : 0;
            facts++;
            return facts - 1;
        }

        boolean hasPerson(int who) {
            return who >= 0 && who < persons;
        }

        boolean hasFirst(int n) {
            return n >= 0 && n <= facts;
        }

        int kindOf(int fact) {
            return fact >= 0 && fact < facts ? at(kinds, fact) : NONE;
        }

        boolean isPaper(int fact) {
            int kind = kindOf(fact);
            return kind >= LOAN && kind <= MEETING;
        }

        int madeOn(int fact) {
            return at(dates, fact);
        }

        /** The giver of a LEAF, or the one who says what it saw. */
        int oneOf(int fact) {
            return at(ones, fact);
        }

        /** The PERSON of a LEAF, the DEED, the FACT that is forged, or 1 for a feast. */
        int thingOf(int fact) {
            return at(things, fact);
        }

        int dayOf(int fact) {
            return at(days, fact);
        }

        /** The taker of a LEAF, or the one who was seen. */
        int otherOf(int fact) {
            return at(others, fact);
        }

        int livedAhead(int who) {
            return at(lived, who);
        }

        boolean isFeast(int day, int n) {
            for (int fact = n - 1; fact >= 0; fact--) {
                if (kindOf(fact) == FEAST && dayOf(fact) == day) {
                    return thingOf(fact) == 1;
                }
            }
            return false;
        }

        int personCount() {
            return persons;
        }

        int factCount() {
            return facts;
        }

        int paperCount() {
            return papers;
        }
    }

    /** The papers as known by the first n facts, held one behind the other under a law. */
    private static final class Known {
        private final Book book;
        private final Rings rings;
        private final int[] reasons = new int[FACTS];
        private final int[] rules = new int[FACTS];
        // The papers in their order, and what the i-th of them moved: NONE for a leaf if it is void.
        private final int[] order = new int[FACTS];
        private final int[] gifts = new int[FACTS];
        private final int[] givers = new int[FACTS];
        private final int[] takers = new int[FACTS];
        // The row i of PAIRS sums is what all owe behind the first i papers; nobody owes in row 0.
        private final int[] debts = new int[(FACTS + 1) * PAIRS];
        private final int[] vars = new int[VARS];
        private final int[] votes = new int[PERSONS];
        private int first = NONE;
        private int lawNumber = NONE;
        private int size = 0;

        Known(Book book, Rings rings) {
            this.book = book;
            this.rings = rings;
        }

        boolean isOf(int n, int number) {
            return first == n && lawNumber == number;
        }

        void learn(int n, int number, Law law) {
            first = n;
            lawNumber = number;
            arrange();
            markForged();
            for (int place = 0; place < size; place++) {
                int fact = at(order, place);
                int reason = whyVoid(place, fact, law);
                put(reasons, fact, reason);
                put(gifts, place, reason == 0 ? leafOf(fact) : NONE);
                put(givers, place, book.oneOf(fact));
                put(takers, place, book.otherOf(fact));
                copyDebts(place);
                if (reason == 0) {
                    follow(place + 1, fact, law);
                }
            }
        }

        int reasonOf(int fact) {
            return at(reasons, fact);
        }

        int growsRule(int fact) {
            if (reasonOf(fact) != 0) {
                return NONE;
            }
            int rule = at(rules, fact);
            return rule == NONE ? NO_RULE_GROWS : rule;
        }

        int banRule(int fact) {
            return reasonOf(fact) == BANNED ? at(rules, fact) : NONE;
        }

        int holderOf(int person, int day) {
            return holderBefore(size, leaf(person, day), person);
        }

        int linkOf(int person, int day, int i) {
            int holder = person;
            int links = 0;
            for (int place = 0; place < size && links < i; place++) {
                if (at(gifts, place) == leaf(person, day)) {
                    holder = at(takers, place);
                    links++;
                }
            }
            return links == i ? holder : NONE;
        }

        int timesAwake(int person, int day) {
            return 1 + gained(size, person, day, day);
        }

        int ageOf(int person, int day) {
            return ageBefore(size, person, day);
        }

        int papersUpTo(int day) {
            int papers = 0;
            while (papers < size && book.madeOn(at(order, papers)) <= day) {
                papers++;
            }
            return papers;
        }

        int debt(int papers, int one, int other) {
            return at(debts, cell(papers, one, other));
        }

        int owedBy(int papers, int person) {
            int sum = 0;
            for (int other = 0; other < PERSONS; other++) {
                sum += debt(papers, person, other);
            }
            return sum;
        }

        int owedTo(int papers, int person) {
            int sum = 0;
            for (int other = 0; other < PERSONS; other++) {
                sum += debt(papers, other, person);
            }
            return sum;
        }

        Rings firstRing(int day) {
            rings.load(debts, papersUpTo(day) * PAIRS);
            rings.findFirst();
            return rings;
        }

        int leftByMeeting(int day) {
            rings.load(debts, papersUpTo(day) * PAIRS);
            rings.meetAll();
            return rings.sumOfAll();
        }

        boolean seenCounts(int fact) {
            int witness = book.oneOf(fact);
            return witness != book.otherOf(fact) && timesAwake(witness, book.dayOf(fact)) > 0;
        }

        /** Who is asleep is neither the doer nor in the way of one. */
        int doerOf(int deed, int day) {
            countVotes(deed, day);
            int best = 0;
            int doer = NONE;
            for (int person = 0; person < PERSONS; person++) {
                int named = at(votes, person);
                if (named > 0 && named >= best && timesAwake(person, day) > 0) {
                    doer = named == best ? NONE : person;
                    best = named;
                }
            }
            return doer;
        }

        private void countVotes(int deed, int day) {
            Arrays.fill(votes, 0);
            for (int witness = 0; witness < PERSONS; witness++) {
                int fact = lastSaid(witness, deed, day);
                if (fact != NONE && seenCounts(fact)) {
                    int named = book.otherOf(fact);
                    put(votes, named, at(votes, named) + 1);
                }
            }
        }

        private int lastSaid(int witness, int deed, int day) {
            for (int fact = first - 1; fact >= 0; fact--) {
                if (book.kindOf(fact) == SEEN && book.oneOf(fact) == witness
                        && book.thingOf(fact) == deed && book.dayOf(fact) == day) {
                    return fact;
                }
            }
            return NONE;
        }

        /** Papers of one day stay in the order of their numbers: none goes ahead of its like. */
        private void arrange() {
            size = 0;
            for (int fact = 0; fact < first; fact++) {
                if (book.isPaper(fact)) {
                    int place = size;
                    while (place > 0 && book.madeOn(at(order, place - 1)) > book.madeOn(fact)) {
                        put(order, place, at(order, place - 1));
                        place--;
                    }
                    put(order, place, fact);
                    size++;
                }
            }
        }

        private void markForged() {
            Arrays.fill(reasons, 0);
            for (int fact = 0; fact < first; fact++) {
                if (book.kindOf(fact) == FORGED) {
                    put(reasons, book.thingOf(fact), IS_FORGED);
                }
            }
        }

        private void copyDebts(int row) {
            if (row >= 0 && row < FACTS) {
                System.arraycopy(debts, row * PAIRS, debts, (row + 1) * PAIRS, PAIRS);
            }
        }

        private int whyVoid(int place, int fact, Law law) {
            if (reasonOf(fact) == IS_FORGED) {
                return IS_FORGED;
            }
            if (book.kindOf(fact) == MEETING) {
                return 0;
            }
            if (holderBefore(place, leafOf(fact), book.thingOf(fact)) != book.oneOf(fact)) {
                return NOT_HOLDER;
            }
            if (book.dayOf(fact) <= book.madeOn(fact)) {
                return HAS_BEGUN;
            }
            if (book.kindOf(fact) == PAYMENT) {
                return debt(place, book.oneOf(fact), book.otherOf(fact)) == 0 ? OWES_NOTHING : 0;
            }
            setVars(place, fact);
            int rule = law.firstThatHolds(false, vars);
            put(rules, fact, rule);
            return rule == NONE ? 0 : BANNED;
        }

        private void setVars(int place, int fact) {
            int giver = book.oneOf(fact);
            int taker = book.otherOf(fact);
            int made = book.madeOn(fact);
            int day = book.dayOf(fact);
            put(vars, VAR_GIVES, giver);
            put(vars, VAR_TAKES, taker);
            put(vars, VAR_FEAST, book.isFeast(day, first) ? 1 : 0);
            put(vars, VAR_AHEAD, day - made);
            put(vars, VAR_CHAIN, timesGivenBefore(place, leafOf(fact)));
            put(vars, VAR_OWN, book.thingOf(fact) == giver ? 1 : 0);
            put(vars, VAR_OWES, debt(place, taker, giver));
            put(vars, VAR_ALL, owedBy(place, taker));
            put(vars, VAR_AGE, ageBefore(place, taker, made));
        }

        /** The vars of a LOAN are still those by which no ban held. */
        private void follow(int row, int fact, Law law) {
            int giver = book.oneOf(fact);
            int taker = book.otherOf(fact);
            switch (book.kindOf(fact)) {
                case MEETING:
                    rings.load(debts, row * PAIRS);
                    rings.meetAll();
                    rings.store(debts, row * PAIRS);
                    break;
                case PAYMENT:
                    put(debts, cell(row, giver, taker), Math.max(0, debt(row, giver, taker) - PAID));
                    break;
                default:
                    int rule = law.firstThatHolds(true, vars);
                    int more = law.growth(rule, vars);
                    put(rules, fact, rule);
                    put(debts, cell(row, taker, giver), debt(row, taker, giver) + more);
                    break;
            }
        }

        private int holderBefore(int end, int leaf, int person) {
            for (int place = end - 1; place >= 0; place--) {
                if (at(gifts, place) == leaf) {
                    return at(takers, place);
                }
            }
            return person;
        }

        private int timesGivenBefore(int end, int leaf) {
            int times = 0;
            for (int place = 0; place < end; place++) {
                times += at(gifts, place) == leaf ? 1 : 0;
            }
            return times;
        }

        private int ageBefore(int end, int person, int day) {
            return book.livedAhead(person) + day + 1 + gained(end, person, 0, day);
        }

        /** The leaves of some days that one was given, less those that one gave. */
        private int gained(int end, int person, int from, int to) {
            int sum = 0;
            for (int place = 0; place < end; place++) {
                int gift = at(gifts, place);
                int day = gift % DAYS;
                if (gift != NONE && day >= from && day <= to) {
                    sum += at(takers, place) == person ? 1 : 0;
                    sum -= at(givers, place) == person ? 1 : 0;
                }
            }
            return sum;
        }

        private int leafOf(int fact) {
            boolean isMeeting = book.kindOf(fact) == MEETING;
            return isMeeting ? NONE : leaf(book.thingOf(fact), book.dayOf(fact));
        }

        private static int leaf(int person, int day) {
            return person * DAYS + day;
        }

        private static int cell(int papers, int one, int other) {
            return papers * PAIRS + one * PERSONS + other;
        }
    }

    /** Debts among all, and the rings that can be met in them. */
    private static final class Rings {
        private final int[] sums = new int[PAIRS];
        private final int[] path = new int[PERSONS];
        private final int[] ring = new int[PERSONS];
        private int start = 0;
        private int ringSize = 0;
        private int ringLeast = 0;
        private int ringMet = 0;

        void load(int[] rows, int from) {
            if (from >= 0 && from + PAIRS <= rows.length) {
                System.arraycopy(rows, from, sums, 0, PAIRS);
            }
        }

        void store(int[] rows, int from) {
            if (from >= 0 && from + PAIRS <= rows.length) {
                System.arraycopy(sums, 0, rows, from, PAIRS);
            }
        }

        int sumOfAll() {
            int all = 0;
            for (int sum : sums) {
                all += sum;
            }
            return all;
        }

        int link(int i) {
            return i >= 0 && i < ringSize ? at(ring, i) : NONE;
        }

        /** Each ring met clears one debt at least, so there are no more rings than pairs. */
        void meetAll() {
            for (int turn = 0; turn < PAIRS && findFirst(); turn++) {
                for (int i = 0; i < ringSize; i++) {
                    int next = i + 1 < ringSize ? at(ring, i + 1) : at(ring, 0);
                    int pair = at(ring, i) * PERSONS + next;
                    put(sums, pair, at(sums, pair) - ringLeast);
                }
            }
        }

        boolean findFirst() {
            ringSize = 0;
            ringLeast = 0;
            ringMet = 0;
            for (int person = 0; person < PERSONS; person++) {
                start = person;
                put(path, 0, person);
                walk(1, 1 << person, Integer.MAX_VALUE);
            }
            return ringSize > 0;
        }

        /** Rings of one size come up in the order in which they are written, so the first stays. */
        private void walk(int size, int used, int least) {
            int last = at(path, size - 1);
            int closing = at(sums, last * PERSONS + start);
            if (closing > 0) {
                offer(size, Math.min(least, closing));
            }
            for (int next = start + 1; next < PERSONS && size < PERSONS; next++) {
                int sum = Math.min(least, at(sums, last * PERSONS + next));
                if (sum > 0 && (used >> next & 1) == 0 && canWin(sum)) {
                    put(path, size, next);
                    walk(size + 1, used | 1 << next, sum);
                }
            }
        }

        /** Most ways are given up early: no ring on this way has more persons, nor a greater least sum. */
        private boolean canWin(int least) {
            int most = PERSONS - start;
            int met = most * least;
            return met > ringMet || met == ringMet && most < ringSize;
        }

        private void offer(int size, int least) {
            int met = size * least;
            if (met > ringMet || met == ringMet && size < ringSize) {
                ringSize = size;
                ringLeast = least;
                ringMet = met;
                System.arraycopy(path, 0, ring, 0, PERSONS);
            }
        }
    }

    /** Rules whose expressions stand as codes, each operator behind what it joins. */
    private static final class Law {
        private final int[] codes = new int[MOST_TOKENS];
        private final int[] values = new int[MOST_TOKENS];
        private final boolean[] isGrowing = new boolean[MOST_RULES];
        private final int[] starts = new int[MOST_RULES];
        private final int[] conditions = new int[MOST_RULES];
        private final int[] ends = new int[MOST_RULES];
        private final int[] stack = new int[MOST_TOKENS];
        private int size = 0;
        private int rules = 0;

        void clear() {
            size = 0;
            rules = 0;
        }

        int ruleCount() {
            return rules;
        }

        void begin(boolean growing) {
            if (rules < MOST_RULES) {
                isGrowing[rules] = growing;
                starts[rules] = size;
                rules++;
            }
        }

        void beginCondition() {
            put(conditions, rules - 1, size);
        }

        void end() {
            put(ends, rules - 1, size);
        }

        void add(int code, int value) {
            put(codes, size, code);
            put(values, size, value);
            size++;
        }

        int firstThatHolds(boolean growing, int[] vars) {
            for (int rule = 0; rule < rules && rule < MOST_RULES; rule++) {
                if (isGrowing[rule] == growing && holds(rule, vars)) {
                    return rule;
                }
            }
            return NONE;
        }

        int growth(int rule, int[] vars) {
            if (rule == NONE) {
                return GROWTH_WITHOUT_RULE;
            }
            int worth = worth(at(starts, rule), at(conditions, rule), vars);
            return Math.max(0, Math.min(MOST_GROWTH, worth));
        }

        private boolean holds(int rule, int[] vars) {
            int from = at(conditions, rule);
            int to = at(ends, rule);
            return from == to || worth(from, to, vars) != 0;
        }

        /** What has been joined stays on the stack till an operator joins it on. */
        private int worth(int from, int to, int[] vars) {
            int height = 0;
            for (int i = from; i < to; i++) {
                int code = at(codes, i);
                if (code == INT || code == VAR) {
                    put(stack, height, code == INT ? at(values, i) : at(vars, at(values, i)));
                    height++;
                } else {
                    height--;
                    int joined = join(code, at(stack, height - 1), at(stack, height));
                    put(stack, height - 1, joined);
                }
            }
            return at(stack, 0);
        }

        private static int join(int code, int left, int right) {
            switch (code) {
                case PLUS: return left + right;
                case MINUS: return left - right;
                case TIMES: return left * right;
                case EQUAL: return left == right ? 1 : 0;
                case UNLIKE: return left != right ? 1 : 0;
                case LESS: return left < right ? 1 : 0;
                case AT_MOST: return left <= right ? 1 : 0;
                case AND: return left & right;
                default: return left | right;
            }
        }
    }

    /** Reads a text token by token, and writes a law as long as the text can go on. */
    private static final class Reader {
        private static final int AWAITS_RULE = 0;
        private static final int AWAITS_IF = 1;
        private static final int AWAITS_UNIT = 2;
        private static final int AWAITS_OPERATOR = 3;

        private static final int IN_GROWTH = 0;
        private static final int LEFT_SIDE = 1;
        private static final int RIGHT_SIDE = 2;

        private static final int NO_RANK = 0;
        private static final int LOWEST_RANK = 1;

        private final Lexer lexer = new Lexer();
        private final int[] operators = new int[MOST_TOKENS];
        private Law law;
        private int height = 0;
        private int awaited = AWAITS_RULE;
        private int side = IN_GROWTH;
        private int depth = 0;
        private int tokens = 0;
        private int fault = 0;

        Reader(Law first) {
            law = first;
        }

        int readText(int[] text, int length, Law into) {
            lexer.open(text, length);
            law = into;
            law.clear();
            height = 0;
            awaited = AWAITS_RULE;
            depth = 0;
            tokens = 0;
            fault = 0;
            // A token takes a byte at least.
            for (int turn = 0; turn <= length && fault == 0; turn++) {
                lexer.cutToken();
                if (lexer.kind == END && fits()) {
                    break;
                }
                fault = faultOfToken();
                if (fault == 0) {
                    take();
                }
            }
            return fault;
        }

        int placeOfFault() {
            return fault == 0 ? NONE : lexer.start;
        }

        private int faultOfToken() {
            if (!fits()) {
                return SYNTAX;
            }
            return hasRoom() ? 0 : ROOM;
        }

        private boolean fits() {
            int kind = lexer.kind;
            switch (awaited) {
                case AWAITS_RULE: return kind == BAN || kind == GROWS || kind == END;
                case AWAITS_IF: return kind == IF;
                case AWAITS_UNIT: return kind == INT || kind == VAR || kind == OPEN;
                default: return fitsBehindUnit(kind);
            }
        }

        private boolean fitsBehindUnit(int kind) {
            if (kind == PLUS || kind == MINUS || kind == TIMES) {
                return true;
            }
            if (depth > 0) {
                return kind == CLOSE;
            }
            switch (side) {
                case IN_GROWTH: return kind == IF || kind == SEMICOLON;
                case LEFT_SIDE: return isRelation(kind);
                default: return kind == AND || kind == OR || kind == SEMICOLON;
            }
        }

        private boolean hasRoom() {
            if (awaited == AWAITS_RULE && law.ruleCount() >= MOST_RULES) {
                return false;
            }
            if (lexer.kind == OPEN && depth >= MOST_DEPTH) {
                return false;
            }
            return tokens < MOST_TOKENS;
        }

        private void take() {
            tokens++;
            switch (lexer.kind) {
                case BAN:
                    law.begin(false);
                    awaited = AWAITS_IF;
                    break;
                case GROWS:
                    law.begin(true);
                    side = IN_GROWTH;
                    awaited = AWAITS_UNIT;
                    break;
                case IF:
                    settle(LOWEST_RANK);
                    law.beginCondition();
                    side = LEFT_SIDE;
                    awaited = AWAITS_UNIT;
                    break;
                case SEMICOLON:
                    endRule();
                    break;
                case OPEN:
                    depth++;
                    push(OPEN);
                    break;
                case CLOSE:
                    settle(LOWEST_RANK);
                    height--;
                    depth--;
                    break;
                case INT:
                case VAR:
                    law.add(lexer.kind, lexer.value);
                    awaited = AWAITS_OPERATOR;
                    break;
                default:
                    takeOperator(lexer.kind);
                    break;
            }
        }

        private void endRule() {
            settle(LOWEST_RANK);
            if (side == IN_GROWTH) {
                law.beginCondition();
            }
            law.end();
            awaited = AWAITS_RULE;
        }

        private void takeOperator(int kind) {
            settle(rank(kind));
            push(kind);
            awaited = AWAITS_UNIT;
            if (isRelation(kind)) {
                side = RIGHT_SIDE;
            } else if (kind == AND || kind == OR) {
                side = LEFT_SIDE;
            }
        }

        private void push(int operator) {
            put(operators, height, operator);
            height++;
        }

        /** Operators that bind no less go into the law; an open ( has no rank and holds all up. */
        private void settle(int least) {
            while (height > 0 && rank(at(operators, height - 1)) >= least) {
                height--;
                law.add(at(operators, height), 0);
            }
        }

        private static boolean isRelation(int kind) {
            return kind == EQUAL || kind == UNLIKE || kind == LESS || kind == AT_MOST;
        }

        private static int rank(int kind) {
            switch (kind) {
                case OR: return LOWEST_RANK;
                case AND: return 2;
                case PLUS:
                case MINUS: return 4;
                case TIMES: return 5;
                default: return isRelation(kind) ? 3 : NO_RANK;
            }
        }
    }

    /** Cuts a text into tokens. */
    private static final class Lexer {
        private static final int MOST_DIGITS = 4;

        int start = 0;
        int kind = END;
        int value = 0;
        private int[] text = new int[0];
        private int length = 0;
        private int next = 0;

        void open(int[] bytes, int count) {
            text = bytes;
            length = Math.min(count, bytes.length);
            next = 0;
        }

        void cutToken() {
            while (next < length && isBlank(byteAt(next))) {
                next++;
            }
            start = next;
            value = 0;
            int first = byteAt(start);
            if (first == NONE) {
                kind = END;
            } else if (isLetter(first)) {
                kind = cutWord();
            } else if (isDigit(first)) {
                kind = cutInt();
            } else {
                kind = cutSign(first);
            }
        }

        private int byteAt(int i) {
            return i < length ? at(text, i) : NONE;
        }

        /** A word of the law has 5 letters at most: one of 9 is no more and no less wrong than one of 6. */
        private int cutWord() {
            while (next < length && isLetter(byteAt(next))) {
                next++;
            }
            for (int word = 0; word < WORD_COUNT; word++) {
                if (isWord(word)) {
                    value = Math.max(0, word - VAR);
                    return Math.min(word, VAR);
                }
            }
            return NO_TOKEN;
        }

        private boolean isWord(int word) {
            if (next - start > WORD_WIDTH) {
                return false;
            }
            for (int i = 0; i < WORD_WIDTH; i++) {
                int place = word * WORD_WIDTH + i;
                int letter = start + i < next ? byteAt(start + i) : ' ';
                if (place >= WORDS.length() || WORDS.charAt(place) != letter) {
                    return false;
                }
            }
            return true;
        }

        private int cutInt() {
            while (next < length && isDigit(byteAt(next))) {
                value = value * 10 + byteAt(next) - '0';
                next++;
            }
            return next - start > MOST_DIGITS ? NO_TOKEN : INT;
        }

        private int cutSign(int first) {
            next++;
            switch (first) {
                case ';': return SEMICOLON;
                case '+': return PLUS;
                case '-': return MINUS;
                case '*': return TIMES;
                case '(': return OPEN;
                case ')': return CLOSE;
                case '=': return cutEqualSign(EQUAL, NO_TOKEN);
                case '!': return cutEqualSign(UNLIKE, NO_TOKEN);
                case '<': return cutEqualSign(AT_MOST, LESS);
                default: return NO_TOKEN;
            }
        }

        private int cutEqualSign(int with, int without) {
            if (byteAt(next) != '=') {
                return without;
            }
            next++;
            return with;
        }

        private static boolean isBlank(int sign) {
            return sign == 9 || sign == 10 || sign == 13 || sign == 32;
        }

        private static boolean isLetter(int sign) {
            return sign >= 'a' && sign <= 'z';
        }

        private static boolean isDigit(int sign) {
            return sign >= '0' && sign <= '9';
        }
    }
}
