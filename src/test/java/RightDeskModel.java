import java.util.ArrayList;
import java.util.List;
import java.util.Random;

/**
 * Long runs of calls, each answered by the class and by a second program that works every answer out
 * ask by ask, straight from the words of the document.
 */
public final class RightDeskModel {
    private static final int RUNS = 120;
    private static final int CALLS = 512;
    private static final int ASKS = 6144;
    private static final int BAD = -1;
    private static final int NO = -2;
    private static final int FULL = -3;

    private record Rule(int rank, boolean denies, int condition) { }

    private static final class Model {
        private final boolean[][] in = new boolean[8][8];
        private final List<int[]> conditions = new ArrayList<>();
        private final List<Rule> rules = new ArrayList<>();
        private boolean[][] held = null;

        private boolean isCondition(int n) {
            return n >= 0 && n < conditions.size();
        }

        private boolean isRule(int n) {
            return n >= 0 && n < rules.size();
        }

        int member(int person, int group, boolean is) {
            if (person < 0 || person > 7 || group < 0 || group > 7) {
                return BAD;
            }
            boolean was = in[person][group];
            in[person][group] = is;
            held = null;
            return was == is ? 0 : 1;
        }

        int condition(int kind, int a, int b, int c) {
            boolean good = switch (kind) {
                case 0, 1 -> a >= 0 && a <= 7;
                case 2, 4 -> a >= 0 && a <= 3;
                case 3 -> a >= 0 && a <= 5;
                case 5 -> a >= 0 && a <= b && b <= 7;
                case 6 -> isCondition(a);
                case 7, 8 -> isCondition(a) && isCondition(b);
                case 9 -> true;
                case 10 -> isCondition(a) && isCondition(b) && isCondition(c);
                default -> false;
            };
            if (!good) {
                return BAD;
            }
            if (conditions.size() == 60) {
                return FULL;
            }
            conditions.add(new int[] {kind, a, b, c});
            held = null;
            return conditions.size() - 1;
        }

        private boolean[] held(int condition) {
            if (held == null) {
                held = new boolean[60][];
            }
            if (held[condition] == null) {
                boolean[] asks = new boolean[ASKS];
                for (int n = 0; n < ASKS; n++) {
                    asks[n] = holds(conditions.get(condition), n);
                }
                held[condition] = asks;
            }
            return held[condition];
        }

        private boolean holds(int[] k, int n) {
            int version = n % 8;
            int class0 = n / 8 % 4;
            int predicate = n / 32 % 6;
            int graph = n / 192 % 4;
            int person = n / 768;
            return switch (k[0]) {
                case 0 -> person == k[1];
                case 1 -> in[person][k[1]];
                case 2 -> graph == k[1];
                case 3 -> predicate == k[1];
                case 4 -> class0 == k[1];
                case 5 -> version >= k[1] && version <= k[2];
                case 6 -> !held(k[1])[n];
                case 7 -> held(k[1])[n] && held(k[2])[n];
                case 8 -> held(k[1])[n] || held(k[2])[n];
                case 9 -> true;
                default -> (held(k[1])[n] ? 1 : 0) + (held(k[2])[n] ? 1 : 0) + (held(k[3])[n] ? 1 : 0) >= 2;
            };
        }

        int rule(int rank, boolean denies, int condition) {
            if (rank < 0 || rank > 9 || !isCondition(condition)) {
                return BAD;
            }
            if (rules.size() == 20) {
                return FULL;
            }
            rules.add(new Rule(rank, denies, condition));
            return rules.size() - 1;
        }

        int drop(int rule) {
            if (!isRule(rule)) {
                return BAD;
            }
            rules.remove(rule);
            return rules.size();
        }

        private static int decider(Model m, List<Rule> among, int n) {
            for (int rank = 0; rank < 10; rank++) {
                int denier = NO;
                int allower = NO;
                for (int i = among.size() - 1; i >= 0; i--) {
                    Rule r = among.get(i);
                    if (r.rank() == rank && m.held(r.condition())[n]) {
                        denier = r.denies() ? i : denier;
                        allower = r.denies() ? allower : i;
                    }
                }
                if (denier != NO || allower != NO) {
                    return denier != NO ? denier : allower;
                }
            }
            return NO;
        }

        private boolean allows(List<Rule> among, int n) {
            int by = decider(this, among, n);
            return by != NO && !among.get(by).denies();
        }

        int may(int[] ask, int what) {
            int[] bounds = {8, 4, 6, 4, 8};
            int n = 0;
            for (int i = 0; i < 5; i++) {
                if (ask[i] < 0 || ask[i] >= bounds[i]) {
                    return BAD;
                }
                n = n * bounds[i] + ask[i];
            }
            return what == 0 ? (allows(rules, n) ? 1 : 0) : what == 1 ? decider(this, rules, n) : BAD;
        }

        int asks(int condition) {
            if (!isCondition(condition)) {
                return BAD;
            }
            int count = 0;
            for (boolean is : held(condition)) {
                count += is ? 1 : 0;
            }
            return count;
        }

        int ask(int condition, int i) {
            if (!isCondition(condition)) {
                return BAD;
            }
            int before = 0;
            for (int n = 0; n < ASKS; n++) {
                if (held(condition)[n] && before++ == i) {
                    return n;
                }
            }
            return NO;
        }

        int within(int a, int b) {
            if (!isCondition(a) || !isCondition(b)) {
                return BAD;
            }
            for (int n = 0; n < ASKS; n++) {
                if (held(a)[n] && !held(b)[n]) {
                    return 0;
                }
            }
            return 1;
        }

        private int decidedBy(List<Rule> among, int rule) {
            int count = 0;
            for (int n = 0; n < ASKS; n++) {
                if (held(among.get(rule).condition())[n]) {
                    count += decider(this, among, n) == rule ? 1 : 0;
                }
            }
            return count;
        }

        int decides(int rule) {
            return isRule(rule) ? decidedBy(rules, rule) : BAD;
        }

        int sees(int person, int version) {
            if (person < 0 || person > 7 || version < 0 || version > 7) {
                return BAD;
            }
            int count = 0;
            for (int n = person * 768 + version; n < (person + 1) * 768; n += 8) {
                count += allows(rules, n) ? 1 : 0;
            }
            return count;
        }

        int matters(int rule) {
            if (!isRule(rule)) {
                return BAD;
            }
            List<Rule> others = new ArrayList<>(rules);
            others.remove(rule);
            int count = 0;
            for (int n = 0; n < ASKS; n++) {
                count += allows(rules, n) != allows(others, n) ? 1 : 0;
            }
            return count;
        }

        int idle(boolean denies, int condition) {
            if (!isCondition(condition)) {
                return BAD;
            }
            for (int rank = 0; rank < 10; rank++) {
                List<Rule> more = new ArrayList<>(rules);
                more.add(new Rule(rank, denies, condition));
                if (decidedBy(more, rules.size()) == 0) {
                    return rank;
                }
            }
            return 10;
        }

        int apart(int person, int other) {
            if (person < 0 || person > 7 || other < 0 || other > 7) {
                return BAD;
            }
            for (int i = 0; i < 768; i++) {
                if (allows(rules, person * 768 + i) != allows(rules, other * 768 + i)) {
                    return person * 768 + i;
                }
            }
            return NO;
        }

        int allowed() {
            int count = 0;
            for (int n = 0; n < ASKS; n++) {
                count += allows(rules, n) ? 1 : 0;
            }
            return count;
        }
    }

    private static final Random DICE = new Random(20261115L);
    private static int wrong = 0;

    private final int run;
    private final int mostRules;
    private final int mostConditions;
    private final int ranks;
    private final RightDesk x = new RightDesk();
    private final Model m = new Model();

    private RightDeskModel(int run) {
        this.run = run;
        this.mostRules = run % 4 == 0 ? 25 : 3 + run % 12;
        this.mostConditions = run % 5 == 0 ? 70 : 8 + run % 30;
        this.ranks = 1 + run % 10;
    }

    private void due(String call, int got, int want) {
        if (got != want) {
            wrong++;
            if (wrong <= 50) {
                System.out.println("run " + run + ": " + call + " answered " + got + ", due is " + want);
            }
        }
    }

    /** A number below the bound, now and then a wrong one. */
    private static int some(int bound) {
        if (DICE.nextInt(25) != 0) {
            return DICE.nextInt(Math.max(bound, 1));
        }
        return switch (DICE.nextInt(6)) {
            case 0 -> -1;
            case 1 -> bound;
            case 2 -> Integer.MIN_VALUE;
            case 3 -> Integer.MAX_VALUE;
            case 4 -> bound + DICE.nextInt(100);
            default -> DICE.nextInt();
        };
    }

    private void makeCondition() {
        int kind = m.conditions.size() > 3 && DICE.nextInt(2) == 0 ? 6 + DICE.nextInt(5) : some(11);
        int own = m.conditions.size();
        int[] bounds = {8, 8, 4, 6, 4, 8, own, own, own, 60, own};
        int bound = kind >= 0 && kind <= 10 ? bounds[kind] : 8;
        int a = some(bound);
        int b = some(bound);
        int c = some(bound);
        due("condition(" + kind + ", " + a + ", " + b + ", " + c + ")",
                x.condition(kind, a, b, c), m.condition(kind, a, b, c));
    }

    private void makeRule() {
        int rank = some(10);
        rank = rank > 0 && rank < 10 ? rank % ranks + (10 - ranks) * (run / 10 % 2) : rank;
        boolean denies = DICE.nextInt(5) < 2;
        int condition = some(m.conditions.size());
        due("rule(" + rank + ", " + denies + ", " + condition + ")",
                x.rule(rank, denies, condition), m.rule(rank, denies, condition));
    }

    private void change() {
        int which = DICE.nextInt(10);
        if (which < 4 && m.conditions.size() < mostConditions) {
            makeCondition();
        } else if (which < 7 && m.rules.size() < mostRules) {
            makeRule();
        } else if (which < 8) {
            int rule = some(m.rules.size());
            due("drop(" + rule + ")", x.drop(rule), m.drop(rule));
        } else {
            int person = some(8);
            int group = some(8);
            boolean is = DICE.nextInt(3) != 0;
            due("member(" + person + ", " + group + ", " + is + ")",
                    x.member(person, group, is), m.member(person, group, is));
        }
    }

    private void question() {
        int condition = some(m.conditions.size());
        int other = some(m.conditions.size());
        int rule = some(m.rules.size());
        int person = some(8);
        boolean denies = DICE.nextBoolean();
        switch (DICE.nextInt(12)) {
            case 0 -> questionOfOneAsk();
            case 1 -> due("asks(" + condition + ")", x.asks(condition), m.asks(condition));
            case 2 -> {
                int i = some(Math.max(1, m.asks(condition)));
                due("ask(" + condition + ", " + i + ")", x.ask(condition, i), m.ask(condition, i));
            }
            case 3 -> due("within(" + condition + ", " + other + ")", x.within(condition, other), m.within(condition, other));
            case 4 -> due("decides(" + rule + ")", x.decides(rule), m.decides(rule));
            case 5 -> {
                int version = some(8);
                due("sees(" + person + ", " + version + ")", x.sees(person, version), m.sees(person, version));
            }
            case 6 -> due("matters(" + rule + ")", x.matters(rule), m.matters(rule));
            case 7 -> due("idle(" + denies + ", " + condition + ")", x.idle(denies, condition), m.idle(denies, condition));
            case 8 -> {
                int whom = some(8);
                due("apart(" + person + ", " + whom + ")", x.apart(person, whom), m.apart(person, whom));
            }
            case 9 -> due("allowed()", x.allowed(), m.allowed());
            case 10 -> due("conditions()", x.conditions(), m.conditions.size());
            default -> due("rules()", x.rules(), m.rules.size());
        }
    }

    private void questionOfOneAsk() {
        int[] n = {some(8), some(4), some(6), some(4), some(8)};
        int what = some(2);
        due("may(" + n[0] + ", " + n[1] + ", " + n[2] + ", " + n[3] + ", " + n[4] + ", " + what + ")",
                x.may(n[0], n[1], n[2], n[3], n[4], what), m.may(n, what));
    }

    private void calls() {
        for (int call = 0; call < CALLS; call++) {
            if (call < 40 || DICE.nextInt(10) < 3) {
                change();
            } else {
                question();
            }
        }
    }

    public static void main(String[] args) {
        for (int run = 0; run < RUNS; run++) {
            new RightDeskModel(run).calls();
        }
        System.out.println(wrong == 0 ? "both programs answer alike" : wrong + " answers are not as due");
        if (wrong != 0) {
            System.exit(1);
        }
    }
}
