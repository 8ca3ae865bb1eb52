/**
 * Rights to read triples, as the document of RightDesk promises them.
 *
 * A set of asks is held as 96 words of 64 bits: ask n is bit n % 64 of word n / 64. By the way asks
 * are numbered, a person then has twelve words of his own, a graph of his three of them, and one
 * word has two predicates of 32 bits: four classes of eight versions each.
 */
public final class RightDesk {
    public static final int BAD = -1;
    public static final int NO = -2;
    public static final int FULL = -3;

    private static final int PERSONS = 8;
    private static final int GROUPS = 8;
    private static final int GRAPHS = 4;
    private static final int PREDICATES = 6;
    private static final int CLASSES = 4;
    private static final int VERSIONS = 8;
    private static final int RANKS = 10;
    private static final int MOST_CONDITIONS = 60;
    private static final int MOST_RULES = 20;

    private static final int KIND_PERSON = 0;
    private static final int KIND_GROUP = 1;
    private static final int KIND_GRAPH = 2;
    private static final int KIND_PREDICATE = 3;
    private static final int KIND_CLASS = 4;
    private static final int KIND_VERSIONS = 5;
    private static final int KIND_NOT = 6;
    private static final int KIND_BOTH = 7;
    private static final int KIND_ONE = 8;
    private static final int KIND_ALWAYS = 9;
    private static final int KIND_MOST = 10;

    private static final int WORD_ASKS = 64;
    private static final int WORDS = 96;
    private static final int PERSON_WORDS = 12;
    private static final int GRAPH_WORDS = 3;
    private static final int WORD_PREDICATES = 2;

    private static final int NOWHERE = -1;

    private static final long NO_ASKS = 0L;
    private static final long ALL_ASKS = -1L;
    private static final long ONE_PREDICATE = 0xFFFFFFFFL;
    private static final long ONE_CLASS = 0x000000FF000000FFL;
    private static final long ONE_VERSION = 0x0101010101010101L;

    private final ConditionBook conditionBook;
    private final RuleBook ruleBook;

    public RightDesk() {
        conditionBook = new ConditionBook();
        ruleBook = new RuleBook();
    }

    public int member(int person, int group, boolean is) {
        if (!isBelow(person, PERSONS) || !isBelow(group, GROUPS)) {
            return BAD;
        }
        return conditionBook.setMember(person, group, is) ? 1 : 0;
    }

    public int condition(int kind, int a, int b, int c) {
        if (!conditionBook.canBe(kind, a, b, c)) {
            return BAD;
        }
        return conditionBook.add(kind, a, b, c);
    }

    public int rule(int rank, boolean denies, int condition) {
        Condition its = conditionBook.at(condition);
        if (its == null || !isBelow(rank, RANKS)) {
            return BAD;
        }
        return ruleBook.add(rank, denies, its);
    }

    public int drop(int rule) {
        int place = ruleBook.placeOf(rule);
        if (place == NOWHERE) {
            return BAD;
        }
        return ruleBook.remove(place, rule);
    }

    public int may(int person, int graph, int predicate, int class0, int version, int what) {
        if (!isBelow(person, PERSONS) || !isBelow(graph, GRAPHS) || !isBelow(predicate, PREDICATES)
                || !isBelow(class0, CLASSES) || !isBelow(version, VERSIONS) || !isBelow(what, 2)) {
            return BAD;
        }
        int number = (((person * GRAPHS + graph) * PREDICATES + predicate) * CLASSES + class0) * VERSIONS + version;
        Rule first = ruleBook.deciderOf(number);
        if (what == 1) {
            return first == null ? NO : first.number;
        }
        return first == null || first.denies ? 0 : 1;
    }

    public int asks(int condition) {
        Condition its = conditionBook.at(condition);
        if (its == null) {
            return BAD;
        }
        int count = 0;
        for (int w = 0; w < WORDS; w++) {
            count += Long.bitCount(its.word(w));
        }
        return count;
    }

    public int ask(int condition, int i) {
        Condition its = conditionBook.at(condition);
        if (its == null) {
            return BAD;
        }
        if (i < 0) {
            return NO;
        }
        int left = i;
        for (int w = 0; w < WORDS; w++) {
            int here = Long.bitCount(its.word(w));
            if (left < here) {
                return w * WORD_ASKS + bitPlace(its.word(w), left);
            }
            left -= here;
        }
        return NO;
    }

    public int within(int a, int b) {
        Condition inner = conditionBook.at(a);
        Condition outer = conditionBook.at(b);
        if (inner == null || outer == null) {
            return BAD;
        }
        for (int w = 0; w < WORDS; w++) {
            if ((inner.word(w) & ~outer.word(w)) != NO_ASKS) {
                return 0;
            }
        }
        return 1;
    }

    public int decides(int rule) {
        int place = ruleBook.placeOf(rule);
        if (place == NOWHERE) {
            return BAD;
        }
        int count = 0;
        for (int w = 0; w < WORDS; w++) {
            count += Long.bitCount(ruleBook.decidedAt(place, w));
        }
        return count;
    }

    public int sees(int person, int version) {
        if (!isBelow(person, PERSONS) || !isBelow(version, VERSIONS)) {
            return BAD;
        }
        long inVersion = versionsFromTo(version, version);
        int count = 0;
        for (int i = 0; i < PERSON_WORDS; i++) {
            count += Long.bitCount(inVersion & allowedIn(person * PERSON_WORDS + i));
        }
        return count;
    }

    public int matters(int rule) {
        int place = ruleBook.placeOf(rule);
        if (place == NOWHERE) {
            return BAD;
        }
        int count = 0;
        for (int w = 0; w < WORDS; w++) {
            count += Long.bitCount(ruleBook.turnedAt(place, w));
        }
        return count;
    }

    public int idle(boolean denies, int condition) {
        Condition its = conditionBook.at(condition);
        if (its == null) {
            return BAD;
        }
        int rank = 0;
        for (int w = 0; w < WORDS; w++) {
            rank = Math.max(rank, ruleBook.idleRank(denies, its.word(w), w));
        }
        return rank;
    }

    public int apart(int person, int other) {
        if (!isBelow(person, PERSONS) || !isBelow(other, PERSONS)) {
            return BAD;
        }
        for (int i = 0; i < PERSON_WORDS; i++) {
            int w = person * PERSON_WORDS + i;
            long differ = allowedIn(w) ^ allowedIn(other * PERSON_WORDS + i);
            if (differ != NO_ASKS) {
                return w * WORD_ASKS + bitPlace(differ, 0);
            }
        }
        return NO;
    }

    public int allowed() {
        int count = 0;
        for (int w = 0; w < WORDS; w++) {
            count += Long.bitCount(allowedIn(w));
        }
        return count;
    }

    public int conditions() {
        return conditionBook.count;
    }

    public int rules() {
        return ruleBook.count;
    }

    private long allowedIn(int w) {
        return ruleBook.allowedFrom(0, ALL_ASKS, w);
    }

    private static boolean isBelow(int number, int bound) {
        return number >= 0 && number < bound;
    }

    private static long versionsFromTo(int a, int b) {
        long asks = NO_ASKS;
        for (int version = 0; version < VERSIONS; version++) {
            if (version >= a && version <= b) {
                asks |= ONE_VERSION << version;
            }
        }
        return asks;
    }

    /** Where the bit stands that has so many of the word's bits below it; the word has more than so many. */
    private static int bitPlace(long word, int below) {
        long rest = word;
        for (int i = 0; i < below; i++) {
            rest &= rest - 1;
        }
        long lowest = rest & -rest;
        return Long.bitCount(lowest - 1);
    }

    /** A condition with the asks for which it holds, kept so that no question has to work them out again. */
    private static final class Condition {
        private final int kind;
        private final int a;
        private final int b;
        private final int c;
        private final long[] words;

        private Condition(int kind, int a, int b, int c) {
            this.kind = kind;
            this.a = a;
            this.b = b;
            this.c = c;
            this.words = new long[WORDS];
        }

        private long word(int w) {
            return isBelow(w, words.length) ? words[w] : NO_ASKS;
        }

        private void setWord(int w, long asks) {
            if (isBelow(w, words.length)) {
                words[w] = asks;
            }
        }
    }

    /** The conditions by their numbers, and the groups, since conditions change with those. */
    private static final class ConditionBook {
        private final Condition[] made;
        private final boolean[] members;
        private int count;

        private ConditionBook() {
            made = new Condition[MOST_CONDITIONS];
            members = new boolean[PERSONS * GROUPS];
            count = 0;
        }

        private Condition at(int number) {
            return isBelow(number, made.length) ? made[number] : null;
        }

        private boolean canBe(int kind, int a, int b, int c) {
            switch (kind) {
                case KIND_PERSON:
                    return isBelow(a, PERSONS);
                case KIND_GROUP:
                    return isBelow(a, GROUPS);
                case KIND_GRAPH:
                    return isBelow(a, GRAPHS);
                case KIND_PREDICATE:
                    return isBelow(a, PREDICATES);
                case KIND_CLASS:
                    return isBelow(a, CLASSES);
                case KIND_VERSIONS:
                    return isBelow(a, VERSIONS) && isBelow(b, VERSIONS) && a <= b;
                case KIND_NOT:
                    return isBelow(a, count);
                case KIND_BOTH:
                case KIND_ONE:
                    return isBelow(a, count) && isBelow(b, count);
                case KIND_ALWAYS:
                    return true;
                case KIND_MOST:
                    return isBelow(a, count) && isBelow(b, count) && isBelow(c, count);
                default:
                    return false;
            }
        }

        private int add(int kind, int a, int b, int c) {
            if (!isBelow(count, made.length)) {
                return FULL;
            }
            Condition fresh = new Condition(kind, a, b, c);
            for (int w = 0; w < WORDS; w++) {
                fresh.setWord(w, workOut(fresh, w));
            }
            made[count] = fresh;
            count++;
            return count - 1;
        }

        /** Tells whether that was otherwise before. */
        private boolean setMember(int person, int group, boolean is) {
            if (isMember(person, group) == is) {
                return false;
            }
            int place = person * GROUPS + group;
            if (isBelow(place, members.length)) {
                members[place] = is;
            }
            workOutAgain(person);
            return true;
        }

        private boolean isMember(int person, int group) {
            int place = person * GROUPS + group;
            return isBelow(place, members.length) && members[place];
        }

        /** Goes by number, as a condition is put together from ones with lesser numbers. */
        private void workOutAgain(int person) {
            for (int number = 0; number < MOST_CONDITIONS; number++) {
                Condition its = at(number);
                if (its == null) {
                    return;
                }
                for (int i = 0; i < PERSON_WORDS; i++) {
                    int w = person * PERSON_WORDS + i;
                    its.setWord(w, workOut(its, w));
                }
            }
        }

        private long workOut(Condition its, int w) {
            switch (its.kind) {
                case KIND_PERSON:
                    return w / PERSON_WORDS == its.a ? ALL_ASKS : NO_ASKS;
                case KIND_GROUP:
                    return isMember(w / PERSON_WORDS, its.a) ? ALL_ASKS : NO_ASKS;
                case KIND_GRAPH:
                    return (w % PERSON_WORDS) / GRAPH_WORDS == its.a ? ALL_ASKS : NO_ASKS;
                case KIND_PREDICATE:
                    return predicateIn(w, its.a);
                case KIND_CLASS:
                    return ONE_CLASS << (its.a * VERSIONS);
                case KIND_VERSIONS:
                    return versionsFromTo(its.a, its.b);
                default:
                    return putTogether(its, w);
            }
        }

        private static long predicateIn(int w, int predicate) {
            if (w % GRAPH_WORDS != predicate / WORD_PREDICATES) {
                return NO_ASKS;
            }
            return ONE_PREDICATE << ((predicate % WORD_PREDICATES) * CLASSES * VERSIONS);
        }

        private long putTogether(Condition its, int w) {
            switch (its.kind) {
                case KIND_NOT:
                    return ~wordOf(its.a, w);
                case KIND_BOTH:
                    return wordOf(its.a, w) & wordOf(its.b, w);
                case KIND_ONE:
                    return wordOf(its.a, w) | wordOf(its.b, w);
                case KIND_ALWAYS:
                    return ALL_ASKS;
                case KIND_MOST:
                    return twoOfThree(wordOf(its.a, w), wordOf(its.b, w), wordOf(its.c, w));
                default:
                    return NO_ASKS;
            }
        }

        private static long twoOfThree(long a, long b, long c) {
            return (a & b) | (a & c) | (b & c);
        }

        private long wordOf(int number, int w) {
            Condition its = at(number);
            return its == null ? NO_ASKS : its.word(w);
        }
    }

    private static final class Rule {
        private final int rank;
        private final boolean denies;
        private final Condition condition;
        private int number;

        private Rule(int number, int rank, boolean denies, Condition condition) {
            this.number = number;
            this.rank = rank;
            this.denies = denies;
            this.condition = condition;
        }

        private long word(int w) {
            return condition.word(w);
        }

        private boolean goesBefore(Rule other) {
            return rank < other.rank || (rank == other.rank && denies && !other.denies);
        }

        /** The least rank by which a rule with a greater number is looked at behind this one. */
        private int rankBehind(boolean thatDenies) {
            return thatDenies && !denies ? rank + 1 : rank;
        }
    }

    /**
     * The rules by rank, in a rank those that deny before those that allow, and then by number: so
     * the first one in the row whose condition holds for an ask is the one that decides it.
     */
    private static final class RuleBook {
        private final Rule[] row;
        private int count;

        private RuleBook() {
            row = new Rule[MOST_RULES];
            count = 0;
        }

        private Rule at(int place) {
            return isBelow(place, row.length) ? row[place] : null;
        }

        private int placeOf(int number) {
            for (int place = 0; place < row.length; place++) {
                Rule its = at(place);
                if (its != null && its.number == number) {
                    return place;
                }
            }
            return NOWHERE;
        }

        private int add(int rank, boolean denies, Condition condition) {
            if (!isBelow(count, row.length)) {
                return FULL;
            }
            Rule fresh = new Rule(count, rank, denies, condition);
            int place = placeFor(fresh);
            for (int p = row.length - 1; p > 0 && p > place; p--) {
                row[p] = row[p - 1];
            }
            if (isBelow(place, row.length)) {
                row[place] = fresh;
            }
            count++;
            return fresh.number;
        }

        private int placeFor(Rule fresh) {
            for (int place = 0; place < row.length; place++) {
                Rule its = at(place);
                if (its == null || fresh.goesBefore(its)) {
                    return place;
                }
            }
            return row.length;
        }

        private int remove(int place, int number) {
            if (isBelow(place, row.length)) {
                for (int p = place; p < row.length - 1; p++) {
                    row[p] = row[p + 1];
                }
                row[row.length - 1] = null;
                count--;
            }
            for (int p = 0; p < row.length; p++) {
                Rule its = at(p);
                if (its != null && its.number > number) {
                    its.number--;
                }
            }
            return count;
        }

        private Rule deciderOf(int number) {
            int w = number / WORD_ASKS;
            long bit = 1L << (number % WORD_ASKS);
            for (int place = 0; place < count; place++) {
                Rule its = at(place);
                if (its != null && (its.word(w) & bit) != NO_ASKS) {
                    return its;
                }
            }
            return null;
        }

        /** Those of the open asks that are allowed when only the rules from this place on are looked at. */
        private long allowedFrom(int from, long open, int w) {
            long left = open;
            long allowed = NO_ASKS;
            for (int place = from; place < count && left != NO_ASKS; place++) {
                Rule its = at(place);
                if (its != null) {
                    long decided = left & its.word(w);
                    allowed |= its.denies ? NO_ASKS : decided;
                    left &= ~decided;
                }
            }
            return allowed;
        }

        private long decidedAt(int place, int w) {
            long left = wordAt(place, w);
            for (int before = 0; before < place && left != NO_ASKS; before++) {
                left &= ~wordAt(before, w);
            }
            return left;
        }

        private long wordAt(int place, int w) {
            Rule its = at(place);
            return its == null ? NO_ASKS : its.word(w);
        }

        /** The asks that would be answered otherwise without this rule: only ones that it decides can be. */
        private long turnedAt(int place, int w) {
            Rule its = at(place);
            if (its == null) {
                return NO_ASKS;
            }
            long decided = decidedAt(place, w);
            long allowedWithout = allowedFrom(place + 1, decided, w);
            return its.denies ? allowedWithout : decided & ~allowedWithout;
        }

        /**
         * The least rank by which a rule behind all others decides none of these asks; RANKS when there is
         * none. Ranks only grow along the row, so it must stand behind the rule that takes the last ask.
         */
        private int idleRank(boolean denies, long asks, int w) {
            long left = asks;
            int rank = 0;
            for (int place = 0; place < count && left != NO_ASKS; place++) {
                Rule its = at(place);
                if (its != null) {
                    rank = its.rankBehind(denies);
                    left &= ~its.word(w);
                }
            }
            return left == NO_ASKS ? rank : RANKS;
        }
    }
}
