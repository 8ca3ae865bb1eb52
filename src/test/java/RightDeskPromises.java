/** Each promise by itself: ordinary calls, the edges that the document names, and wrong numbers. */
public final class RightDeskPromises {
    private static final int BAD = -1;
    private static final int NO = -2;
    private static final int FULL = -3;

    private static final int PERSON = 0;
    private static final int GROUP = 1;
    private static final int GRAPH = 2;
    private static final int PREDICATE = 3;
    private static final int CLASS = 4;
    private static final int VERSIONS = 5;
    private static final int NOT = 6;
    private static final int BOTH = 7;
    private static final int ONE = 8;
    private static final int ALWAYS = 9;
    private static final int MOST = 10;

    private static final int[] WRONG = {-1, Integer.MIN_VALUE, Integer.MAX_VALUE, -2, -3, 1 << 16, 1 << 30, 65};

    private static String promise = "";
    private static int wrong = 0;

    private static void due(String call, int got, int want) {
        if (got != want) {
            wrong++;
            System.out.println(promise + ": " + call + " answered " + got + ", due is " + want);
        }
    }

    public static void main(String[] args) {
        newObject();
        member();
        memberMovesConditions();
        plainConditions();
        conditionsOfOthers();
        wrongConditions();
        fullConditions();
        rule();
        fullRules();
        drop();
        may();
        mayByRankAndNumber();
        asksAndAsk();
        everyAskInOrder();
        within();
        decides();
        sees();
        matters();
        idle();
        idleByEachRank();
        apart();
        allowed();
        counts();
        twoObjects();
        everyAskAlone();
        System.out.println(wrong == 0 ? "all promises are kept" : wrong + " answers are not as due");
        if (wrong != 0) {
            System.exit(1);
        }
    }

    private static RightDesk desk(String named) {
        promise = named;
        return new RightDesk();
    }

    private static int number(int person, int graph, int predicate, int class0, int version) {
        return (((person * 4 + graph) * 6 + predicate) * 4 + class0) * 8 + version;
    }

    private static void newObject() {
        RightDesk x = desk("promise 1");
        due("BAD", RightDesk.BAD, BAD);
        due("NO", RightDesk.NO, NO);
        due("FULL", RightDesk.FULL, FULL);
        due("conditions", x.conditions(), 0);
        due("rules", x.rules(), 0);
        due("allowed", x.allowed(), 0);
        for (int group = 0; group < 8; group++) {
            due("condition", x.condition(GROUP, group, 0, 0), group);
            due("asks of group " + group, x.asks(group), 0);
        }
        for (int person = 0; person < 8; person++) {
            for (int group = 0; group < 8; group++) {
                due("member false", x.member(person, group, false), 0);
            }
        }
    }

    private static void member() {
        RightDesk x = desk("promise 2");
        for (int person = 0; person < 8; person++) {
            for (int group = 0; group < 8; group++) {
                due("member true", x.member(person, group, true), 1);
                due("member true again", x.member(person, group, true), 0);
                if ((person + group) % 2 == 0) {
                    due("member false", x.member(person, group, false), 1);
                    due("member false again", x.member(person, group, false), 0);
                }
            }
        }
        for (int number : WRONG) {
            due("member of wrong person", x.member(number, 0, true), BAD);
            due("member of wrong group", x.member(0, number, true), BAD);
            due("member of both wrong", x.member(number, number, false), BAD);
        }
        due("member(8, 0)", x.member(8, 0, false), BAD);
        due("member(0, 8)", x.member(0, 8, false), BAD);
        due("member(7, 8)", x.member(7, 8, true), BAD);
        due("member(1, -1)", x.member(1, -1, true), BAD);
        for (int group = 0; group < 8; group++) {
            x.condition(GROUP, group, 0, 0);
            due("asks of group", x.asks(group), 4 * 768);
            due("first ask of group", x.ask(group, 0), group % 2 == 0 ? 768 : 0);
        }
    }

    private static void memberMovesConditions() {
        RightDesk x = desk("promise 2, conditions made before");
        int group = x.condition(GROUP, 4, 0, 0);
        int graph = x.condition(GRAPH, 2, 0, 0);
        int not = x.condition(NOT, group, 0, 0);
        int both = x.condition(BOTH, group, graph, 0);
        int one = x.condition(ONE, group, graph, 0);
        int most = x.condition(MOST, group, graph, not);
        int deep = x.condition(NOT, both, 0, 0);
        x.rule(4, false, deep);
        due("allowed", x.allowed(), 6144);
        x.member(6, 4, true);
        due("asks(group)", x.asks(group), 768);
        due("ask(group, 0)", x.ask(group, 0), 6 * 768);
        due("asks(not)", x.asks(not), 5376);
        due("asks(both)", x.asks(both), 192);
        due("ask(both, 0)", x.ask(both, 0), number(6, 2, 0, 0, 0));
        due("asks(one)", x.asks(one), 768 + 7 * 192);
        due("asks(most)", x.asks(most), 8 * 192);
        due("asks(deep)", x.asks(deep), 6144 - 192);
        due("allowed", x.allowed(), 6144 - 192);
        due("may", x.may(6, 2, 5, 3, 7, 0), 0);
        x.member(1, 4, true);
        x.member(6, 4, false);
        due("asks(group)", x.asks(group), 768);
        due("ask(group, 0)", x.ask(group, 0), 768);
        due("may", x.may(6, 2, 5, 3, 7, 0), 1);
        due("may", x.may(1, 2, 5, 3, 7, 0), 0);
        due("decides", x.decides(0), 6144 - 192);
        x.member(1, 3, true);
        due("asks(group)", x.asks(group), 768);
    }

    private static void plainConditions() {
        RightDesk x = desk("promise 3, plain kinds");
        int made = 0;
        int[] bounds = {8, 8, 4, 6, 4};
        int[] sizes = {768, 0, 1536, 1024, 1536};
        int[] firsts = {768, 0, 192, 32, 8};
        for (int kind = PERSON; kind <= CLASS; kind++) {
            for (int a = 0; a < bounds[kind]; a++) {
                due("condition(" + kind + ", " + a + ")", x.condition(kind, a, -7, 99), made);
                due("asks(" + made + ")", x.asks(made), sizes[kind]);
                due("ask(" + made + ", 0)", x.ask(made, 0), kind == GROUP ? NO : a * firsts[kind]);
                made++;
            }
            due("condition(" + kind + ", bound)", x.condition(kind, bounds[kind], 0, 0), BAD);
            for (int number : WRONG) {
                due("condition(" + kind + ", " + number + ")", x.condition(kind, number, 0, 0), BAD);
            }
        }
        for (int a = 0; a < 8; a++) {
            versionsFrom(a);
        }
        due("conditions", x.conditions(), made);
        due("ALWAYS looks at no number", x.condition(ALWAYS, -1, 99, Integer.MIN_VALUE), made);
        due("asks of ALWAYS", x.asks(made), 6144);
    }

    private static void versionsFrom(int a) {
        RightDesk x = desk("promise 3, versions");
        int made = 0;
        for (int b = 0; b < 8; b++) {
            int want = a <= b ? made++ : BAD;
            due("condition(5, " + a + ", " + b + ")", x.condition(VERSIONS, a, b, -1), want);
            if (a <= b) {
                due("asks of versions", x.asks(want), 768 * (b - a + 1));
                due("first ask of versions", x.ask(want, 0), a);
                due("an ask of versions", x.ask(want, b - a + 1), 8 + a);
                due("last ask of versions", x.ask(want, x.asks(want) - 1), 6136 + b);
            }
        }
        for (int number : WRONG) {
            due("versions to a wrong one", x.condition(VERSIONS, a, number, 0), BAD);
            due("versions from a wrong one", x.condition(VERSIONS, number, a, 0), BAD);
        }
        due("versions to 8", x.condition(VERSIONS, a, 8, 0), BAD);
        due("versions from -1", x.condition(VERSIONS, -1, a, 0), BAD);
        due("versions 8 8", x.condition(VERSIONS, 8, 8, 0), BAD);
        due("conditions", x.conditions(), made);
    }

    private static void conditionsOfOthers() {
        RightDesk x = desk("promise 3, kinds of others");
        int graph = x.condition(GRAPH, 3, 0, 0);
        int predicate = x.condition(PREDICATE, 4, 0, 0);
        int class1 = x.condition(CLASS, 1, 0, 0);
        int not = x.condition(NOT, graph, -5, 70);
        int both = x.condition(BOTH, graph, predicate, -5);
        int one = x.condition(ONE, graph, predicate, 70);
        int most = x.condition(MOST, graph, predicate, class1);
        due("number of the last", most, 6);
        due("asks(not)", x.asks(not), 4608);
        due("asks(both)", x.asks(both), 256);
        due("ask(both, 0)", x.ask(both, 0), number(0, 3, 4, 0, 0));
        due("asks(one)", x.asks(one), 1536 + 1024 - 256);
        // Each pair, less the 64 asks of all three, which are in every pair.
        due("asks(most)", x.asks(most), 256 + 384 + 256 - 2 * 64);
        due("ask(most, 0)", x.ask(most, 0), number(0, 0, 4, 1, 0));
        int twice = x.condition(MOST, graph, graph, predicate);
        due("MOST of one twice within it", x.within(twice, graph), 1);
        due("MOST of one twice holds for it", x.within(graph, twice), 1);
        int self = x.condition(BOTH, graph, graph, 0);
        due("BOTH of one", x.asks(self), 1536);
        int never = x.condition(BOTH, graph, not, 0);
        due("BOTH of opposites", x.asks(never), 0);
        int ever = x.condition(ONE, not, graph, 0);
        due("ONE of opposites", x.asks(ever), 6144);
    }

    private static void wrongConditions() {
        RightDesk x = desk("promise 3, wrong numbers");
        due("NOT of none", x.condition(NOT, 0, 0, 0), BAD);
        due("BOTH of none", x.condition(BOTH, 0, 0, 0), BAD);
        due("ONE of none", x.condition(ONE, 0, 0, 0), BAD);
        due("MOST of none", x.condition(MOST, 0, 0, 0), BAD);
        x.condition(ALWAYS, 0, 0, 0);
        x.condition(ALWAYS, 0, 0, 0);
        for (int number : new int[] {2, 59, 60, -1, Integer.MIN_VALUE, Integer.MAX_VALUE}) {
            due("NOT", x.condition(NOT, number, 0, 0), BAD);
            due("BOTH first", x.condition(BOTH, number, 0, 0), BAD);
            due("BOTH second", x.condition(BOTH, 1, number, 0), BAD);
            due("ONE first", x.condition(ONE, number, 1, 0), BAD);
            due("ONE second", x.condition(ONE, 0, number, 0), BAD);
            due("MOST first", x.condition(MOST, number, 0, 1), BAD);
            due("MOST second", x.condition(MOST, 0, number, 1), BAD);
            due("MOST third", x.condition(MOST, 0, 1, number), BAD);
        }
        for (int kind : new int[] {11, 12, -1, Integer.MIN_VALUE, Integer.MAX_VALUE}) {
            due("kind " + kind, x.condition(kind, 0, 0, 0), BAD);
        }
        due("conditions", x.conditions(), 2);
        due("the next one", x.condition(MOST, 1, 1, 1), 2);
    }

    private static void fullConditions() {
        RightDesk x = desk("promise 3, full");
        for (int i = 0; i < 60; i++) {
            due("condition", x.condition(VERSIONS, i % 8, 7, 0), i);
        }
        for (int kind = 0; kind <= 10; kind++) {
            due("one more of kind " + kind, x.condition(kind, 1, 1, 1), FULL);
        }
        due("one more of the last", x.condition(NOT, 59, 0, 0), FULL);
        due("one more and wrong", x.condition(NOT, 60, 0, 0), BAD);
        due("one more and wrong", x.condition(VERSIONS, 4, 3, 0), BAD);
        due("one more and wrong", x.condition(11, 0, 0, 0), BAD);
        due("conditions", x.conditions(), 60);
        due("asks(59)", x.asks(59), 768 * 5);
        due("asks(60)", x.asks(60), BAD);
        due("rule of the last", x.rule(0, false, 59), 0);
    }

    private static void rule() {
        RightDesk x = desk("promise 4");
        due("rule of no condition", x.rule(0, false, 0), BAD);
        x.condition(ALWAYS, 0, 0, 0);
        for (int number : WRONG) {
            due("wrong rank", x.rule(number, false, 0), BAD);
            due("wrong condition", x.rule(0, true, number), BAD);
        }
        due("rank 10", x.rule(10, true, 0), BAD);
        due("condition 1", x.rule(0, true, 1), BAD);
        due("rules", x.rules(), 0);
        due("rule", x.rule(9, false, 0), 0);
        due("rule", x.rule(0, false, 0), 1);
        due("rule", x.rule(5, true, 0), 2);
        due("rules", x.rules(), 3);
        due("decides(1)", x.decides(1), 6144);
    }

    private static void fullRules() {
        RightDesk x = desk("promise 4, full");
        x.condition(ALWAYS, 0, 0, 0);
        x.condition(GRAPH, 0, 0, 0);
        for (int i = 0; i < 20; i++) {
            due("rule", x.rule(9 - i % 10, false, 0), i);
        }
        due("rule", x.rule(0, true, 1), FULL);
        due("wrong rank", x.rule(10, true, 1), BAD);
        due("wrong condition", x.rule(0, true, 2), BAD);
        due("rules", x.rules(), 20);
        due("allowed", x.allowed(), 6144);
        due("decides(9)", x.decides(9), 6144);
        due("decides(19)", x.decides(19), 0);
        due("drop(9)", x.drop(9), 19);
        due("decides(18)", x.decides(18), 6144);
        due("rule", x.rule(0, true, 1), 19);
        due("rule", x.rule(0, true, 1), FULL);
        due("decides(19)", x.decides(19), 1536);
        due("drop(19)", x.drop(19), 19);
        due("allowed", x.allowed(), 6144);
    }

    private static void drop() {
        RightDesk x = desk("promise 5");
        due("drop of none", x.drop(0), BAD);
        for (int graph = 0; graph < 4; graph++) {
            x.condition(GRAPH, graph, 0, 0);
            x.rule(3 - graph, graph % 2 == 1, graph);
        }
        for (int number : WRONG) {
            due("drop of a wrong one", x.drop(number), BAD);
        }
        due("drop(4)", x.drop(4), BAD);
        due("rules", x.rules(), 4);
        due("drop(1)", x.drop(1), 3);
        due("rules", x.rules(), 3);
        due("drop(3)", x.drop(3), BAD);
        due("graph 0", x.may(0, 0, 0, 0, 0, 1), 0);
        due("graph 1", x.may(0, 1, 0, 0, 0, 1), NO);
        due("graph 2", x.may(0, 2, 0, 0, 0, 1), 1);
        due("graph 3", x.may(0, 3, 0, 0, 0, 1), 2);
        due("graph 3", x.may(0, 3, 0, 0, 0, 0), 0);
        due("a rule behind", x.rule(9, false, 1), 3);
        due("graph 1", x.may(0, 1, 0, 0, 0, 1), 3);
        due("drop(0)", x.drop(0), 3);
        due("graph 3", x.may(0, 3, 0, 0, 0, 1), 1);
        due("drop(2)", x.drop(2), 2);
        due("graph 2", x.may(0, 2, 0, 0, 0, 1), 0);
        due("drop(1)", x.drop(1), 1);
        due("drop(0)", x.drop(0), 0);
        due("drop(0)", x.drop(0), BAD);
        due("allowed", x.allowed(), 0);
        due("conditions", x.conditions(), 4);
    }

    private static void may() {
        RightDesk x = desk("promise 6");
        due("none", x.may(7, 3, 5, 3, 7, 0), 0);
        due("none", x.may(7, 3, 5, 3, 7, 1), NO);
        x.condition(ALWAYS, 0, 0, 0);
        x.rule(0, false, 0);
        due("all", x.may(7, 3, 5, 3, 7, 0), 1);
        due("all", x.may(7, 3, 5, 3, 7, 1), 0);
        int[] bounds = {8, 4, 6, 4, 8, 2};
        for (int place = 0; place < 6; place++) {
            mayWith(x, place, bounds[place]);
            for (int number : WRONG) {
                mayWith(x, place, number);
            }
        }
    }

    private static void mayWith(RightDesk x, int place, int number) {
        int[] n = new int[6];
        n[place] = number;
        due("wrong number " + number + " at " + place, x.may(n[0], n[1], n[2], n[3], n[4], n[5]), BAD);
    }

    private static void mayByRankAndNumber() {
        RightDesk x = desk("promise 6, by rank and number");
        x.condition(ALWAYS, 0, 0, 0);
        x.condition(GRAPH, 1, 0, 0);
        x.condition(CLASS, 2, 0, 0);
        x.rule(5, false, 0);
        x.rule(5, false, 0);
        due("the least that allows", x.may(0, 1, 0, 2, 0, 1), 0);
        x.rule(5, true, 1);
        x.rule(5, true, 1);
        due("the least that denies", x.may(0, 1, 0, 2, 0, 1), 2);
        due("denied", x.may(0, 1, 0, 2, 0, 0), 0);
        due("others stay", x.may(0, 2, 0, 2, 0, 1), 0);
        due("others stay", x.may(0, 2, 0, 2, 0, 0), 1);
        x.rule(4, false, 2);
        due("an earlier rank", x.may(0, 1, 0, 2, 0, 1), 4);
        due("an earlier rank", x.may(0, 1, 0, 2, 0, 0), 1);
        due("where it does not hold", x.may(0, 1, 0, 1, 0, 1), 2);
        x.rule(6, true, 0);
        due("a later rank", x.may(0, 1, 0, 2, 0, 1), 4);
        x.rule(0, true, 1);
        due("the first rank", x.may(0, 1, 0, 2, 0, 1), 6);
        due("the first rank", x.may(0, 0, 0, 2, 0, 1), 4);
    }

    private static void asksAndAsk() {
        RightDesk x = desk("promises 7 and 8");
        due("asks(0)", x.asks(0), BAD);
        due("ask(0, 0)", x.ask(0, 0), BAD);
        due("ask(0, -1)", x.ask(0, -1), BAD);
        int always = x.condition(ALWAYS, 0, 0, 0);
        int never = x.condition(NOT, always, 0, 0);
        due("asks(always)", x.asks(always), 6144);
        due("asks(never)", x.asks(never), 0);
        due("ask(never, 0)", x.ask(never, 0), NO);
        due("ask(always, 6143)", x.ask(always, 6143), 6143);
        due("ask(always, 6144)", x.ask(always, 6144), NO);
        due("ask(always, -1)", x.ask(always, -1), NO);
        due("ask(always, least)", x.ask(always, Integer.MIN_VALUE), NO);
        due("ask(always, greatest)", x.ask(always, Integer.MAX_VALUE), NO);
        for (int number : WRONG) {
            due("asks of a wrong one", x.asks(number), BAD);
            due("ask of a wrong one", x.ask(number, 0), BAD);
        }
        due("asks(2)", x.asks(2), BAD);
        due("ask(2, 0)", x.ask(2, 0), BAD);
        int version = x.condition(VERSIONS, 7, 7, 0);
        due("ask(version, 0)", x.ask(version, 0), 7);
        due("ask(version, 7)", x.ask(version, 7), 63);
        due("ask(version, 8)", x.ask(version, 8), 71);
        due("ask(version, 767)", x.ask(version, 767), 6143);
        due("ask(version, 768)", x.ask(version, 768), NO);
    }

    private static void everyAskInOrder() {
        RightDesk x = desk("promise 8, every ask");
        x.condition(PREDICATE, 3, 0, 0);
        x.condition(CLASS, 2, 0, 0);
        x.condition(VERSIONS, 1, 5, 0);
        x.condition(PERSON, 4, 0, 0);
        int most = x.condition(MOST, 0, 1, 2);
        int both = x.condition(BOTH, most, 3, 0);
        int i = 0;
        for (int n = 0; n < 6144; n++) {
            int holding = n / 32 % 6 == 3 ? 1 : 0;
            holding += n / 8 % 4 == 2 ? 1 : 0;
            holding += n % 8 >= 1 && n % 8 <= 5 ? 1 : 0;
            if (holding >= 2 && n / 768 == 4) {
                due("ask(" + i + ")", x.ask(both, i), n);
                i++;
            }
        }
        due("asks", x.asks(both), i);
        due("ask behind the last", x.ask(both, i), NO);
    }

    private static void within() {
        RightDesk x = desk("promise 9");
        due("within(0, 0)", x.within(0, 0), BAD);
        int always = x.condition(ALWAYS, 0, 0, 0);
        int never = x.condition(NOT, always, 0, 0);
        int inner = x.condition(VERSIONS, 3, 4, 0);
        int outer = x.condition(VERSIONS, 2, 4, 0);
        int group = x.condition(GROUP, 7, 0, 0);
        int last = x.condition(PERSON, 7, 0, 0);
        due("within itself", x.within(inner, inner), 1);
        due("inner in outer", x.within(inner, outer), 1);
        due("outer in inner", x.within(outer, inner), 0);
        due("never in inner", x.within(never, inner), 1);
        due("never in never", x.within(never, never), 1);
        due("always in never", x.within(always, never), 0);
        due("person in group", x.within(last, group), 0);
        due("empty group in person", x.within(group, last), 1);
        x.member(7, 7, true);
        due("person in group", x.within(last, group), 1);
        for (int number : WRONG) {
            due("a wrong first one", x.within(number, 0), BAD);
            due("a wrong second one", x.within(0, number), BAD);
        }
        due("within(6, 0)", x.within(6, 0), BAD);
        due("within(0, 6)", x.within(0, 6), BAD);
        due("within(1, 6)", x.within(1, 6), BAD);
    }

    private static void decides() {
        RightDesk x = desk("promise 10");
        due("decides(0)", x.decides(0), BAD);
        x.condition(ALWAYS, 0, 0, 0);
        x.condition(GRAPH, 1, 0, 0);
        x.condition(CLASS, 2, 0, 0);
        x.rule(5, false, 0);
        x.rule(5, false, 2);
        x.rule(5, true, 1);
        x.rule(5, true, 2);
        due("decides(0)", x.decides(0), 6144 - 1536 - 1536 + 384);
        due("decides(1)", x.decides(1), 0);
        due("decides(2)", x.decides(2), 1536);
        due("decides(3)", x.decides(3), 1536 - 384);
        x.rule(2, false, 1);
        due("decides(2)", x.decides(2), 0);
        due("decides(3)", x.decides(3), 1536 - 384);
        due("decides(4)", x.decides(4), 1536);
        for (int number : WRONG) {
            due("decides of a wrong one", x.decides(number), BAD);
        }
        due("decides(5)", x.decides(5), BAD);
        x.drop(4);
        due("decides(4)", x.decides(4), BAD);
        due("decides(2)", x.decides(2), 1536);
    }

    private static void sees() {
        RightDesk x = desk("promise 11");
        due("sees(7, 7)", x.sees(7, 7), 0);
        x.condition(PERSON, 7, 0, 0);
        x.condition(VERSIONS, 6, 7, 0);
        x.condition(PREDICATE, 5, 0, 0);
        x.rule(3, false, 0);
        x.rule(3, false, 1);
        x.rule(1, true, 2);
        for (int person = 0; person < 8; person++) {
            for (int version = 0; version < 8; version++) {
                due("sees", x.sees(person, version), person == 7 || version >= 6 ? 80 : 0);
            }
        }
        x.drop(2);
        due("sees(7, 0)", x.sees(7, 0), 96);
        due("sees(0, 6)", x.sees(0, 6), 96);
        due("sees(0, 5)", x.sees(0, 5), 0);
        for (int number : WRONG) {
            due("sees of a wrong person", x.sees(number, 0), BAD);
            due("sees of a wrong version", x.sees(0, number), BAD);
        }
        due("sees(8, 0)", x.sees(8, 0), BAD);
        due("sees(0, 8)", x.sees(0, 8), BAD);
    }

    private static void matters() {
        RightDesk x = desk("promise 12");
        due("matters(0)", x.matters(0), BAD);
        x.condition(ALWAYS, 0, 0, 0);
        x.condition(GRAPH, 1, 0, 0);
        x.condition(CLASS, 2, 0, 0);
        x.rule(9, true, 0);
        due("a denial with none behind it", x.matters(0), 0);
        x.rule(5, false, 1);
        due("an allowance", x.matters(1), 1536);
        x.rule(5, false, 2);
        due("where both allow neither matters", x.matters(1), 1536 - 384);
        due("where both allow neither matters", x.matters(2), 1536 - 384);
        x.rule(0, true, 2);
        due("a denial before", x.matters(3), 1536);
        due("what is denied before", x.matters(2), 0);
        due("what is left", x.matters(1), 1536 - 384);
        due("the last denial", x.matters(0), 0);
        x.rule(9, false, 0);
        due("the last denial", x.matters(0), 6144 - 1536 - 1536 + 384);
        due("an allowance behind it", x.matters(4), 0);
        due("matters does not drop", x.rules(), 5);
        for (int number : WRONG) {
            due("matters of a wrong one", x.matters(number), BAD);
        }
        due("matters(5)", x.matters(5), BAD);
    }

    private static void idle() {
        RightDesk x = desk("promise 13");
        due("idle(true, 0)", x.idle(true, 0), BAD);
        int always = x.condition(ALWAYS, 0, 0, 0);
        int never = x.condition(NOT, always, 0, 0);
        int graph = x.condition(GRAPH, 1, 0, 0);
        due("with no rules", x.idle(true, always), 10);
        due("with no rules", x.idle(false, graph), 10);
        due("never", x.idle(true, never), 0);
        due("never", x.idle(false, never), 0);
        x.rule(9, false, always);
        due("denying behind the last rank's allowance", x.idle(true, always), 10);
        due("allowing behind the last rank's allowance", x.idle(false, always), 9);
        x.rule(9, true, graph);
        due("denying behind a denial", x.idle(true, graph), 9);
        due("denying where some are allowed", x.idle(true, always), 10);
        x.rule(0, true, graph);
        due("denying behind the first rank's denial", x.idle(true, graph), 0);
        due("allowing behind the first rank's denial", x.idle(false, graph), 0);
        x.drop(2);
        x.rule(0, false, graph);
        due("denying behind the first rank's allowance", x.idle(true, graph), 1);
        due("allowing behind the first rank's allowance", x.idle(false, graph), 0);
        due("idle makes no rule", x.rules(), 3);
        for (int number : WRONG) {
            due("idle of a wrong one", x.idle(false, number), BAD);
        }
        due("idle(true, 3)", x.idle(true, 3), BAD);
    }

    private static void idleByEachRank() {
        for (int rank = 0; rank < 10; rank++) {
            RightDesk x = desk("promise 13, rank " + rank);
            x.condition(PERSON, 7, 0, 0);
            x.condition(CLASS, 3, 0, 0);
            x.condition(BOTH, 0, 1, 0);
            x.rule(rank, true, 0);
            due("behind a denial, denying", x.idle(true, 0), rank);
            due("behind a denial, allowing", x.idle(false, 2), rank);
            x.rule(rank, false, 1);
            due("behind an allowance, denying", x.idle(true, 1), rank + 1);
            due("behind an allowance, allowing", x.idle(false, 1), rank);
            due("where both hold, denying", x.idle(true, 2), rank);
            while (x.rules() < 20) {
                x.rule(rank, true, 2);
            }
            due("with all rules there", x.idle(true, 1), rank + 1);
            due("with all rules there", x.idle(false, 1), rank);
        }
    }

    private static void apart() {
        RightDesk x = desk("promise 14");
        due("apart(0, 1)", x.apart(0, 1), NO);
        x.condition(PERSON, 6, 0, 0);
        x.condition(VERSIONS, 5, 7, 0);
        x.condition(PREDICATE, 3, 0, 0);
        x.condition(BOTH, 0, 1, 0);
        x.condition(BOTH, 3, 2, 0);
        x.rule(4, false, 4);
        due("one may", x.apart(6, 2), number(6, 0, 3, 0, 5));
        due("the other one may", x.apart(2, 6), number(2, 0, 3, 0, 5));
        due("neither may", x.apart(2, 3), NO);
        due("neither may", x.apart(5, 4), NO);
        due("neither may", x.apart(4, 5), NO);
        due("oneself", x.apart(6, 6), NO);
        x.condition(GRAPH, 0, 0, 0);
        x.rule(3, true, 5);
        due("the first graph is denied", x.apart(6, 7), number(6, 1, 3, 0, 5));
        due("the first graph is denied", x.apart(7, 6), number(7, 1, 3, 0, 5));
        x.condition(ALWAYS, 0, 0, 0);
        x.rule(9, false, 6);
        due("other rules but the same answers", x.apart(6, 7), NO);
        for (int number : WRONG) {
            due("apart of a wrong one", x.apart(number, 0), BAD);
            due("apart of a wrong other one", x.apart(0, number), BAD);
            due("apart of a wrong one twice", x.apart(number, number), BAD);
        }
        due("apart(8, 0)", x.apart(8, 0), BAD);
        due("apart(0, 8)", x.apart(0, 8), BAD);
        due("apart(8, 8)", x.apart(8, 8), BAD);
    }

    private static void allowed() {
        RightDesk x = desk("promise 15");
        x.condition(ALWAYS, 0, 0, 0);
        x.condition(GROUP, 1, 0, 0);
        x.condition(VERSIONS, 0, 0, 0);
        x.rule(8, true, 0);
        due("all denied", x.allowed(), 0);
        x.rule(7, false, 1);
        due("nobody in the group", x.allowed(), 0);
        x.member(0, 1, true);
        x.member(7, 1, true);
        due("two in the group", x.allowed(), 1536);
        x.rule(7, true, 2);
        due("but one version", x.allowed(), 1536 - 192);
        x.rule(0, false, 0);
        due("all", x.allowed(), 6144);
    }

    private static void counts() {
        RightDesk x = desk("promises 16 and 17");
        for (int i = 0; i < 60; i++) {
            due("conditions", x.conditions(), i);
            x.condition(ALWAYS, 0, 0, 0);
            x.condition(PERSON, 8, 0, 0);
        }
        due("conditions", x.conditions(), 60);
        for (int i = 0; i < 20; i++) {
            due("rules", x.rules(), i);
            x.rule(i % 10, true, i);
            x.rule(10, true, i);
        }
        due("rules", x.rules(), 20);
        x.drop(7);
        x.drop(19);
        due("rules", x.rules(), 19);
        due("conditions", x.conditions(), 60);
    }

    private static void twoObjects() {
        RightDesk x = desk("promise 1, two objects");
        RightDesk y = new RightDesk();
        x.member(1, 1, true);
        x.condition(GROUP, 1, 0, 0);
        x.rule(0, false, 0);
        due("conditions of the other", y.conditions(), 0);
        due("rules of the other", y.rules(), 0);
        due("condition of the other", y.condition(GROUP, 1, 0, 0), 0);
        due("asks of the other", y.asks(0), 0);
        due("allowed of the other", y.allowed(), 0);
        due("allowed", x.allowed(), 768);
    }

    private static void everyAskAlone() {
        for (int n = 0; n < 6144; n++) {
            askAlone(n);
        }
    }

    private static void askAlone(int n) {
        RightDesk x = desk("all promises, ask " + n + " alone");
        int person = n / 768;
        int other = (person + 1 + n % 7) % 8;
        x.condition(PERSON, person, 0, 0);
        x.condition(GRAPH, n / 192 % 4, 0, 0);
        x.condition(PREDICATE, n / 32 % 6, 0, 0);
        x.condition(CLASS, n / 8 % 4, 0, 0);
        x.condition(VERSIONS, n % 8, n % 8, 0);
        x.condition(BOTH, 0, 1, 0);
        x.condition(BOTH, 2, 3, 0);
        x.condition(BOTH, 5, 6, 0);
        int alone = x.condition(BOTH, 7, 4, 0);
        int rest = x.condition(NOT, alone, 0, 0);
        int always = x.condition(ALWAYS, 0, 0, 0);
        due("asks(alone)", x.asks(alone), 1);
        due("ask(alone, 0)", x.ask(alone, 0), n);
        due("ask(alone, 1)", x.ask(alone, 1), NO);
        due("ask(rest, n)", x.ask(rest, n), n == 6143 ? NO : n + 1);
        due("within(alone, rest)", x.within(alone, rest), 0);
        due("within(always, rest)", x.within(always, rest), 0);
        due("within(rest, always)", x.within(rest, always), 1);
        x.rule(6, false, rest);
        due("idle(false, always)", x.idle(false, always), 10);
        due("idle(false, rest)", x.idle(false, rest), 6);
        due("apart", x.apart(person, other), n);
        due("apart", x.apart(other, person), n + (other - person) * 768);
        due("sees", x.sees(person, n % 8), 95);
        x.rule(7, true, alone);
        due("decides(1)", x.decides(1), 1);
        due("matters(1)", x.matters(1), 0);
        due("idle(true, alone)", x.idle(true, alone), 7);
        due("idle(false, always)", x.idle(false, always), 7);
        due("may", x.may(person, n / 192 % 4, n / 32 % 6, n / 8 % 4, n % 8, 1), 1);
        x.rule(9, false, always);
        due("matters(1)", x.matters(1), 1);
        due("allowed", x.allowed(), 6143);
        due("decides(0)", x.decides(0), 6143);
    }
}
