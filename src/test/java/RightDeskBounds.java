import java.io.IOException;
import java.lang.reflect.Method;
import java.nio.file.Files;
import java.nio.file.Path;
import java.util.ArrayList;
import java.util.EnumMap;
import java.util.List;
import java.util.Map;
import java.util.TreeMap;

/**
 * The bounds of the document, sentence by sentence. Each test is a method whose name begins with the
 * section that it belongs to, and it quotes the words that it tests; main runs every such method, and
 * looks in the document whether the words stand there, and whether words are left that no test quotes.
 */
public final class RightDeskBounds {
    private static final Path DOCUMENT = Path.of("../shared/DOC.md");

    private static final int BAD = -1;
    private static final int NO = -2;
    private static final int FULL = -3;

    private static final int PERSON = 0;
    private static final int GROUP = 1;
    private static final int GRAPH = 2;
    private static final int PREDICATE = 3;
    private static final int CLASS = 4;
    private static final int VERSIONS = 5;
    private static final int NOT = 6;
    private static final int BOTH = 7;
    private static final int ONE = 8;
    private static final int ALWAYS = 9;
    private static final int MOST = 10;

    /** What a boolean is called with. */
    private static final int FALSE = 0;
    private static final int TRUE = 1;
    private static final int ALLOWS = 0;
    private static final int DENIES = 1;

    private static final int MIN = Integer.MIN_VALUE;
    private static final int MAX = Integer.MAX_VALUE;
    private static final int MOST_CALLS = 512;
    private static final int ASKS = 6144;

    private static final List<String[]> QUOTES = new ArrayList<>();
    private static String label = "";
    private static int wrong = 0;

    // ---- How tests are written ----

    private static void says(String section, String words) {
        QUOTES.add(new String[] {section, words});
        label = section + ", \"" + words + "\"";
    }

    private static void fault(String text) {
        wrong++;
        if (wrong <= 100) {
            System.out.println(label + ": " + text);
        }
    }

    /** An object that counts its calls, since the document promises nothing after the 512th. */
    private static final class Desk {
        private final RightDesk x = new RightDesk();
        private int calls = 0;

        private int call(String name, int... n) {
            calls++;
            if (calls > MOST_CALLS) {
                fault("the test itself makes more than " + MOST_CALLS + " calls");
            }
            return answer(x, name, n);
        }

        private Desk due(int want, String name, int... n) {
            int got = call(name, n);
            if (got != want) {
                fault(told(name, n) + ", call " + calls + ", answered " + got + ", due is " + want);
            }
            return this;
        }

        private void dueNot(int refusal, String name, int... n) {
            int got = call(name, n);
            if (got == refusal) {
                fault(told(name, n) + ", call " + calls + ", answered " + got + ", and should not");
            }
        }
    }

    private static int answer(RightDesk x, String name, int... n) {
        return switch (name) {
            case "member" -> x.member(n[0], n[1], n[2] != FALSE);
            case "condition" -> x.condition(n[0], n[1], n[2], n[3]);
            case "rule" -> x.rule(n[0], n[1] != FALSE, n[2]);
            case "drop" -> x.drop(n[0]);
            case "may" -> x.may(n[0], n[1], n[2], n[3], n[4], n[5]);
            case "asks" -> x.asks(n[0]);
            case "ask" -> x.ask(n[0], n[1]);
            case "within" -> x.within(n[0], n[1]);
            case "decides" -> x.decides(n[0]);
            case "sees" -> x.sees(n[0], n[1]);
            case "matters" -> x.matters(n[0]);
            case "idle" -> x.idle(n[0] != FALSE, n[1]);
            case "apart" -> x.apart(n[0], n[1]);
            case "allowed" -> x.allowed();
            case "conditions" -> x.conditions();
            case "rules" -> x.rules();
            default -> throw new IllegalArgumentException(name);
        };
    }

    private static String told(String name, int... n) {
        StringBuilder text = new StringBuilder(name).append('(');
        for (int i = 0; i < n.length; i++) {
            text.append(i == 0 ? "" : ", ").append(n[i]);
        }
        return text.append(')').toString();
    }

    private record Call(String name, int[] n) { }

    private static Call row(String name, int... n) {
        return new Call(name, n);
    }

    // ---- The objects that tests begin with ----

    private enum State { NEW, SOME, CONDITIONS_60, RULES_20, ALL }

    /** How many conditions and rules those objects have. */
    private static int conditionsOf(State state) {
        return switch (state) {
            case NEW -> 0;
            case SOME, RULES_20 -> 12;
            case CONDITIONS_60, ALL -> 60;
        };
    }

    private static int rulesOf(State state) {
        return switch (state) {
            case NEW, CONDITIONS_60 -> 0;
            case SOME -> 5;
            case RULES_20, ALL -> 20;
        };
    }

    private static Desk built(State state) {
        Desk x = new Desk();
        if (state == State.NEW) {
            return x;
        }
        int[][] members = {{0, 0}, {0, 7}, {3, 2}, {5, 2}, {7, 7}, {6, 1}};
        for (int[] one : members) {
            x.due(1, "member", one[0], one[1], TRUE);
        }
        int[][] made = {
            {PERSON, 7, 0, 0}, {GROUP, 2, 0, 0}, {GRAPH, 3, 0, 0}, {PREDICATE, 5, 0, 0}, {CLASS, 0, 0, 0},
            {VERSIONS, 2, 6, 0}, {NOT, 1, 0, 0}, {BOTH, 2, 5, 0}, {ONE, 0, 3, 0}, {ALWAYS, 0, 0, 0},
            {MOST, 4, 5, 6}, {GROUP, 7, 0, 0}};
        for (int i = 0; i < conditionsOf(state); i++) {
            int[] one = i < made.length ? made[i] : new int[] {BOTH + i % 2, i - 1, (i * 7) % 12, 0};
            x.due(i, "condition", one);
        }
        for (int i = 0; i < rulesOf(state); i++) {
            x.due(i, "rule", (i * 7 + 3) % 10, i % 3 == 1 ? DENIES : ALLOWS, (i * 5 + 1) % 12);
        }
        return x;
    }

    // ---- Calls that are refused: what all the other methods answer is as before ----

    private static final int CHUNK = 380;
    private static final List<List<Call>> CHUNKS = chunks();
    private static final Map<State, List<int[]>> BEFORE = new EnumMap<>(State.class);

    private static List<Call> questions() {
        List<Call> all = new ArrayList<>(List.of(row("conditions"), row("rules"), row("allowed")));
        for (int c = 0; c <= 60; c++) {
            all.add(row("asks", c));
            all.add(row("ask", c, 0));
            all.add(row("ask", c, 95));
            all.add(row("ask", c, 767));
            all.add(row("within", c, (c * 7 + 3) % 60));
            all.add(row("within", (c * 11 + 5) % 60, c));
            all.add(row("idle", ALLOWS, c));
            all.add(row("idle", DENIES, c));
        }
        for (int rule = 0; rule <= 20; rule++) {
            all.add(row("decides", rule));
            all.add(row("matters", rule));
        }
        for (int i = 0; i < 64; i++) {
            all.add(row("sees", i / 8, i % 8));
            all.add(row("apart", i / 8, i % 8));
        }
        for (int ask = 0; ask < ASKS; ask += 53) {
            all.add(row("may", ask / 768, ask / 192 % 4, ask / 32 % 6, ask / 8 % 4, ask % 8, 0));
            all.add(row("may", ask / 768, ask / 192 % 4, ask / 32 % 6, ask / 8 % 4, ask % 8, 1));
        }
        return all;
    }

    /** Changes too are answered as before: who was in which group, and the next numbers. */
    private static List<Call> changes() {
        List<Call> all = new ArrayList<>();
        for (int i = 0; i < 64; i++) {
            all.add(row("member", i / 8, i % 8, FALSE));
        }
        all.add(row("condition", GROUP, 1, 0, 0));
        all.add(row("condition", NOT, 3, 0, 0));
        all.add(row("rule", 4, DENIES, 2));
        for (int i = 0; i < 21; i++) {
            all.add(row("rule", i % 10, i % 2, i));
            all.add(row("allowed"));
        }
        for (int i = 20; i >= 0; i--) {
            all.add(row("drop", i / 2));
            all.add(row("allowed"));
        }
        return all;
    }

    private static List<List<Call>> chunks() {
        List<List<Call>> cut = new ArrayList<>();
        List<Call> all = questions();
        for (int from = 0; from < all.size(); from += CHUNK) {
            cut.add(all.subList(from, Math.min(all.size(), from + CHUNK)));
        }
        cut.add(changes());
        return cut;
    }

    private static int[] answers(Desk x, List<Call> chunk) {
        int[] got = new int[chunk.size()];
        for (int i = 0; i < got.length; i++) {
            got[i] = x.call(chunk.get(i).name(), chunk.get(i).n());
        }
        return got;
    }

    private static List<int[]> before(State state) {
        if (!BEFORE.containsKey(state)) {
            List<int[]> all = new ArrayList<>();
            for (List<Call> chunk : CHUNKS) {
                all.add(answers(built(state), chunk));
            }
            BEFORE.put(state, all);
        }
        return BEFORE.get(state);
    }

    private static void refused(State state, int want, List<Call> calls) {
        List<int[]> before = before(state);
        for (int k = 0; k < CHUNKS.size(); k++) {
            Desk x = built(state);
            for (Call one : calls) {
                x.due(want, one.name(), one.n());
            }
            int[] got = answers(x, CHUNKS.get(k));
            for (int i = 0; i < got.length; i++) {
                if (got[i] != before.get(k)[i]) {
                    Call asked = CHUNKS.get(k).get(i);
                    fault("after refused calls like " + told(calls.get(0).name(), calls.get(0).n()) + " in "
                            + state + ", " + told(asked.name(), asked.n()) + " answered " + got[i]
                            + ", before " + before.get(k)[i]);
                }
            }
        }
    }

    private static void refused(State state, int want, String name, int... n) {
        refused(state, want, List.of(row(name, n)));
    }

    // ---- One step below and above a bound, the least and the greatest int, and numbers that wrap around ----

    private static int[] outside(int least, int greatest) {
        return new int[] {
            least - 1, greatest + 1, MIN, MAX, least - 2, greatest + 2, MIN + 1, MAX - 1,
            least + 256, greatest + 256, least + (1 << 16), greatest + (1 << 16), greatest - 256,
            least + (1 << 29), greatest + (1 << 29), least + (1 << 30), greatest + (1 << 30),
            greatest + MIN, greatest - (1 << 29), greatest - (1 << 30)};
    }

    private static int[] with(int[] n, int place, int number) {
        int[] changed = n.clone();
        changed[place] = number;
        return changed;
    }

    /** The call, in its place, has numbers from the least to the greatest, and no others. */
    private static void bounds(State state, int least, int greatest, int place, String name, int... n) {
        List<Call> out = new ArrayList<>();
        for (int number : outside(least, greatest)) {
            out.add(row(name, with(n, place, number)));
        }
        refused(state, BAD, out);
        for (int number = least; number <= greatest; number++) {
            built(state).dueNot(BAD, name, with(n, place, number));
        }
    }

    private static void boundsInAll(int least, int greatest, int place, String name, int... n) {
        for (State state : State.values()) {
            bounds(state, least, greatest, place, name, n);
        }
    }

    private static void boundsOfConditions(int place, String name, int... n) {
        for (State state : State.values()) {
            bounds(state, 0, conditionsOf(state) - 1, place, name, n);
        }
    }

    private static void boundsOfRules(int place, String name, int... n) {
        for (State state : State.values()) {
            bounds(state, 0, rulesOf(state) - 1, place, name, n);
        }
    }

    // ---- Conditions that tests are made of ----

    private static int number(int person, int graph, int predicate, int class0, int version) {
        return (((person * 4 + graph) * 6 + predicate) * 4 + class0) * 8 + version;
    }

    /** Makes ten conditions: 8 holds for this ask alone, 9 for all others. */
    private static Desk withAskAlone(int person, int graph, int predicate, int class0, int version) {
        return new Desk()
                .due(0, "condition", PERSON, person, 0, 0)
                .due(1, "condition", GRAPH, graph, 0, 0)
                .due(2, "condition", PREDICATE, predicate, 0, 0)
                .due(3, "condition", CLASS, class0, 0, 0)
                .due(4, "condition", VERSIONS, version, version, 0)
                .due(5, "condition", BOTH, 0, 1, 0)
                .due(6, "condition", BOTH, 2, 3, 0)
                .due(7, "condition", BOTH, 4, 5, 0)
                .due(8, "condition", BOTH, 6, 7, 0)
                .due(9, "condition", NOT, 8, 0, 0);
    }

    /** Condition 0 holds for all asks, condition 1 for none. */
    private static Desk withAllAndNone() {
        return new Desk().due(0, "condition", ALWAYS, 0, 0, 0).due(1, "condition", NOT, 0, 0, 0);
    }

    private static Desk withConditions(int count) {
        Desk x = new Desk();
        for (int i = 0; i < count; i++) {
            x.due(i, "condition", VERSIONS, i % 8, 7, 0);
        }
        return x;
    }

    private static Desk withRules(int count, int rank, int denies) {
        Desk x = withAllAndNone();
        for (int i = 0; i < count; i++) {
            x.due(i, "rule", rank, denies, 0);
        }
        return x;
    }

    private static void dueAsks(Desk x, int condition, int... some) {
        for (int i = 0; i + 1 < some.length; i += 2) {
            x.due(some[i + 1], "ask", condition, some[i]);
        }
    }

    // ==== What it is ====

    private static final Call[] LAST_CALLS = {
        row("member", 7, 7, FALSE), row("member", 7, 7, TRUE), row("member", 7, 8, TRUE),
        row("condition", GROUP, 7, 0, 0), row("condition", NOT, 12, 0, 0),
        row("rule", 9, DENIES, 11), row("rule", 10, DENIES, 11),
        row("drop", 0), row("drop", 4), row("drop", 5),
        row("may", 7, 3, 5, 3, 7, 0), row("may", 7, 3, 5, 3, 7, 1), row("may", 7, 3, 5, 3, 7, 2),
        row("asks", 11), row("asks", 12), row("ask", 11, 0), row("ask", 11, 1535), row("ask", 11, 1536),
        row("ask", 12, 0), row("within", 0, 11), row("within", 11, 0), row("within", 0, 12),
        row("decides", 4), row("decides", 5), row("sees", 7, 7), row("sees", 7, 8),
        row("matters", 4), row("matters", 5), row("idle", ALLOWS, 11), row("idle", DENIES, 11),
        row("idle", DENIES, 12), row("apart", 7, 0), row("apart", 0, 0), row("apart", 0, 8),
        row("allowed"), row("conditions"), row("rules")};

    private static final Call[][] FILLERS = {
        {row("allowed")},
        {row("member", 2, 7, TRUE), row("member", 2, 7, FALSE)},
        {row("rule", 0, DENIES, 9), row("drop", 5)},
        {row("condition", 11, 0, 0, 0), row("rule", -1, ALLOWS, 0), row("drop", 5), row("member", 0, 8, TRUE)},
        {row("matters", 1), row("idle", DENIES, 9), row("ask", 9, 6143), row("apart", 1, 6), row("within", 1, 2)}};

    /** A round of a filler leaves all as it was, so each round is answered as the first one. */
    private static Desk withCalls(Call[] filler, int calls) {
        Desk x = built(State.SOME);
        int[] first = answers(x, List.of(filler));
        while (x.calls + filler.length <= calls) {
            for (int i = 0; i < filler.length; i++) {
                x.due(first[i], filler[i].name(), filler[i].n());
            }
        }
        while (x.calls < calls) {
            x.due(5, "rules");
        }
        return x;
    }

    private static void whatItIsThe512thCall() {
        says("What it is", "An object is used for at most 512 calls after it has been made");
        for (Call last : LAST_CALLS) {
            int want = built(State.SOME).call(last.name(), last.n());
            for (Call[] filler : FILLERS) {
                for (int before = MOST_CALLS - 3; before < MOST_CALLS; before++) {
                    withCalls(filler, before).due(want, last.name(), last.n());
                }
            }
        }
    }

    private static void whatItIsThe512thCallIsOfTheLastThatFits() {
        says("What it is", "An object is used for at most 512 calls after it has been made");
        Desk conditions = new Desk();
        while (conditions.calls < MOST_CALLS - 60) {
            conditions.due(0, "conditions");
        }
        for (int i = 0; i < 60; i++) {
            conditions.due(i, "condition", ALWAYS, 0, 0, 0);
        }
        Desk rules = new Desk().due(0, "condition", ALWAYS, 0, 0, 0);
        while (rules.calls < MOST_CALLS - 20) {
            rules.due(0, "rules");
        }
        for (int i = 0; i < 20; i++) {
            rules.due(i, "rule", 9, ALLOWS, 0);
        }
    }

    private static void whatItIs512CallsOfOneKind() {
        says("What it is", "An object is used for at most 512 calls after it has been made");
        Desk conditions = new Desk();
        Desk members = new Desk();
        Desk rules = new Desk().due(0, "condition", ALWAYS, 0, 0, 0);
        Desk drops = new Desk();
        for (int i = 0; i < MOST_CALLS; i++) {
            conditions.due(i < 60 ? i : FULL, "condition", ALWAYS, 0, 0, 0);
            members.due(1, "member", 7, 7, i % 2 == 0 ? TRUE : FALSE);
            drops.due(BAD, "drop", 0);
        }
        for (int i = 0; i < MOST_CALLS - 1; i++) {
            rules.due(i < 20 ? i : FULL, "rule", 0, ALLOWS, 0);
        }
        Desk comeAndGo = new Desk().due(0, "condition", ALWAYS, 0, 0, 0).due(0, "rules");
        while (comeAndGo.calls < MOST_CALLS) {
            comeAndGo.due(0, "rule", 9, DENIES, 0).due(0, "drop", 0);
        }
    }

    private static void whatItIsOneQuestionUntilThe512thCall() {
        says("What it is", "An object is used for at most 512 calls after it has been made");
        for (Call question : LAST_CALLS) {
            if (!List.of("member", "condition", "rule", "drop").contains(question.name())) {
                withCalls(new Call[] {question}, MOST_CALLS);
            }
        }
    }

    private static void whatItIsLaterCallsAreFreeButEnd() {
        says("What it is", "what later calls answer is free");
        says("Not promised", "nothing about an object after its 512th call");
        for (State state : State.values()) {
            RightDesk x = built(state).x;
            for (int round = 0; round < 4; round++) {
                for (List<Call> chunk : CHUNKS) {
                    for (Call one : chunk) {
                        answer(x, one.name(), one.n());
                    }
                }
            }
        }
    }

    // ==== Terms ====

    private static void termsAPersonIs0To7() {
        says("Terms", "An ASK is a PERSON (0 .. 7)");
        boundsInAll(0, 7, 0, "member", 0, 0, TRUE);
        boundsInAll(0, 7, 1, "condition", PERSON, 0, 0, 0);
        boundsInAll(0, 7, 0, "may", 0, 0, 0, 0, 0, 0);
        boundsInAll(0, 7, 0, "sees", 0, 0);
        boundsInAll(0, 7, 0, "apart", 0, 7);
        boundsInAll(0, 7, 1, "apart", 7, 0);
    }

    private static void termsAGraphIs0To3() {
        says("Terms", "a GRAPH (0 .. 3)");
        boundsInAll(0, 3, 1, "condition", GRAPH, 0, 0, 0);
        boundsInAll(0, 3, 1, "may", 0, 0, 0, 0, 0, 1);
    }

    private static void termsAPredicateIs0To5() {
        says("Terms", "a PREDICATE (0 .. 5)");
        boundsInAll(0, 5, 1, "condition", PREDICATE, 0, 0, 0);
        boundsInAll(0, 5, 2, "may", 0, 0, 0, 0, 0, 1);
    }

    private static void termsAClassIs0To3() {
        says("Terms", "a CLASS (0 .. 3)");
        boundsInAll(0, 3, 1, "condition", CLASS, 0, 0, 0);
        boundsInAll(0, 3, 3, "may", 0, 0, 0, 0, 0, 1);
    }

    private static void termsAVersionIs0To7() {
        says("Terms", "and a VERSION (0 .. 7)");
        boundsInAll(0, 7, 1, "condition", VERSIONS, 0, 7, 0);
        boundsInAll(0, 7, 2, "condition", VERSIONS, 0, 0, 0);
        boundsInAll(0, 7, 4, "may", 0, 0, 0, 0, 0, 1);
        boundsInAll(0, 7, 1, "sees", 0, 0);
    }

    private static void termsTheNumberOfAnAsk() {
        says("Terms", "its NUMBER is ((((person 4 + graph) 6 + predicate) 4 + class) 8 + version)");
        int[] firsts = {0, 0, 0, 0, 0};
        int[] lasts = {7, 3, 5, 3, 7};
        for (int corner = 0; corner < 32; corner++) {
            int[] n = new int[5];
            for (int i = 0; i < 5; i++) {
                n[i] = (corner >> i) % 2 == 0 ? firsts[i] : lasts[i];
            }
            int want = number(n[0], n[1], n[2], n[3], n[4]);
            withAskAlone(n[0], n[1], n[2], n[3], n[4])
                    .due(want, "ask", 8, 0)
                    .due(NO, "ask", 8, 1)
                    .due(0, "rule", 5, ALLOWS, 8)
                    .due(1, "may", n[0], n[1], n[2], n[3], n[4], 0)
                    .due(want, "apart", n[0], 7 - n[0]);
        }
        withAskAlone(0, 0, 0, 0, 0).due(0, "ask", 8, 0).due(1, "ask", 9, 0);
        withAskAlone(7, 3, 5, 3, 7).due(6143, "ask", 8, 0).due(6142, "ask", 9, 6142);
    }

    private static void termsThereAre6144() {
        says("Terms", "there are 6144");
        Desk x = withAllAndNone().due(6144, "asks", 0).due(0, "ask", 0, 0);
        dueAsks(x, 0, 1, 1, 6142, 6142, 6143, 6143, 6144, NO, 6145, NO, -1, NO, MIN, NO, MAX, NO);
        x.due(0, "rule", 0, ALLOWS, 0).due(6144, "allowed").due(6144, "decides", 0).due(6144, "matters", 0);
        int seen = 0;
        for (int i = 0; i < 64; i++) {
            seen += x.call("sees", i / 8, i % 8);
        }
        if (seen != ASKS) {
            fault("all persons see " + seen + " asks in all versions");
        }
    }

    private static void termsTheGroupsAre0To7() {
        says("Terms", "Each person is in some of the GROUPS 0 .. 7");
        boundsInAll(0, 7, 1, "member", 0, 0, TRUE);
        boundsInAll(0, 7, 1, "condition", GROUP, 0, 0, 0);
        Desk x = new Desk();
        for (int group = 0; group < 8; group++) {
            x.due(group, "condition", GROUP, group, 0, 0).due(0, "asks", group);
        }
        for (int group = 0; group < 8; group++) {
            x.due(1, "member", 7, group, TRUE).due(768, "asks", group).due(5376, "ask", group, 0);
        }
        for (int group = 7; group >= 0; group--) {
            x.due(1, "member", 7, group, FALSE).due(0, "asks", group);
        }
    }

    private static void termsConditionsAreNumberedFrom0AtMost60() {
        says("Terms", "CONDITIONS are numbered from 0, at most 60");
        Desk x = new Desk().due(0, "conditions").due(BAD, "asks", 0);
        x.due(0, "condition", VERSIONS, 0, 7, 0).due(6144, "asks", 0).due(BAD, "asks", 1);
        for (int i = 1; i < 59; i++) {
            x.due(i, "condition", ALWAYS, 0, 0, 0);
        }
        x.due(59, "conditions").due(BAD, "asks", 59);
        x.due(59, "condition", VERSIONS, 7, 7, 0).due(60, "conditions").due(768, "asks", 59).due(BAD, "asks", 60);
        x.due(FULL, "condition", VERSIONS, 7, 7, 0).due(60, "conditions").due(BAD, "asks", 60).due(768, "asks", 59);
    }

    private static void termsTheKindsAre0To10() {
        says("Terms", "each holds for some asks");
        for (State state : State.values()) {
            List<Call> out = new ArrayList<>();
            for (int kind : outside(PERSON, MOST)) {
                out.add(row("condition", kind, 0, 0, 0));
            }
            refused(state, BAD, out);
        }
        for (int kind = PERSON; kind <= MOST; kind++) {
            built(State.SOME).due(12, "condition", kind, 0, 0, 0);
        }
    }

    private static void termsKind0Person() {
        says("Terms", "0 PERSON a: that person's");
        for (int a = 0; a < 8; a++) {
            Desk x = new Desk().due(0, "condition", PERSON, a, 0, 0).due(768, "asks", 0);
            dueAsks(x, 0, 0, a * 768, 767, a * 768 + 767, 768, NO);
        }
    }

    private static void termsKind1Group() {
        says("Terms", "1 GROUP a: those of persons in it");
        Desk x = new Desk().due(0, "condition", GROUP, 7, 0, 0);
        x.due(0, "asks", 0).due(NO, "ask", 0, 0);
        x.due(1, "member", 7, 7, TRUE).due(768, "asks", 0);
        dueAsks(x, 0, 0, 5376, 767, 6143, 768, NO);
        x.due(1, "member", 0, 7, TRUE).due(1536, "asks", 0);
        dueAsks(x, 0, 0, 0, 767, 767, 768, 5376, 1535, 6143, 1536, NO);
        x.due(1, "member", 0, 6, TRUE).due(1, "member", 1, 0, TRUE).due(1536, "asks", 0);
        for (int person = 1; person < 7; person++) {
            x.due(1, "member", person, 7, TRUE);
        }
        x.due(6144, "asks", 0).due(6143, "ask", 0, 6143).due(NO, "ask", 0, 6144);
        for (int person = 0; person < 8; person++) {
            x.due(1, "member", person, 7, FALSE).due(768 * (7 - person), "asks", 0);
        }
        x.due(NO, "ask", 0, 0);
    }

    private static void termsKind2Graph() {
        says("Terms", "2 GRAPH a");
        for (int a = 0; a < 4; a++) {
            Desk x = new Desk().due(0, "condition", GRAPH, a, 0, 0).due(1536, "asks", 0);
            int first = a * 192;
            dueAsks(x, 0, 0, first, 191, first + 191, 192, first + 768, 1535, first + 5567, 1536, NO);
        }
    }

    private static void termsKind3Predicate() {
        says("Terms", "3 PREDICATE a");
        for (int a = 0; a < 6; a++) {
            Desk x = new Desk().due(0, "condition", PREDICATE, a, 0, 0).due(1024, "asks", 0);
            int first = a * 32;
            dueAsks(x, 0, 0, first, 31, first + 31, 32, first + 192, 1023, first + 5983, 1024, NO);
        }
    }

    private static void termsKind4Class() {
        says("Terms", "4 CLASS a");
        for (int a = 0; a < 4; a++) {
            Desk x = new Desk().due(0, "condition", CLASS, a, 0, 0).due(1536, "asks", 0);
            int first = a * 8;
            dueAsks(x, 0, 0, first, 7, first + 7, 8, first + 32, 1535, first + 6119, 1536, NO);
        }
    }

    private static void termsKind5Versions() {
        says("Terms", "5 VERSIONS a b: from a to b");
        for (int a = 0; a < 8; a++) {
            for (int b = a; b < 8; b++) {
                int wide = b - a + 1;
                Desk x = new Desk().due(0, "condition", VERSIONS, a, b, 0).due(768 * wide, "asks", 0);
                dueAsks(x, 0, 0, a, wide - 1, b, wide, a + 8, 768 * wide - 1, 6136 + b, 768 * wide, NO);
                x.due(0, "rule", 0, ALLOWS, 0);
                for (int version = 0; version < 8; version++) {
                    x.due(version >= a && version <= b ? 1 : 0, "may", 7, 3, 5, 3, version, 0);
                }
            }
        }
    }

    private static void termsKind6Not() {
        says("Terms", "6 NOT a");
        Desk x = withAllAndNone().due(0, "asks", 1).due(NO, "ask", 1, 0);
        x.due(2, "condition", NOT, 1, 0, 0).due(6144, "asks", 2);
        x.due(3, "condition", PERSON, 7, 0, 0).due(4, "condition", NOT, 3, 0, 0).due(5376, "asks", 4);
        dueAsks(x, 4, 0, 0, 5375, 5375, 5376, NO);
    }

    private static void termsKind7Both() {
        says("Terms", "7 BOTH a b");
        for (int a = 0; a < 2; a++) {
            for (int b = 0; b < 2; b++) {
                withAllAndNone().due(2, "condition", BOTH, a, b, 0).due(a + b == 0 ? 6144 : 0, "asks", 2);
            }
        }
        withAskAlone(7, 3, 5, 3, 7).due(10, "condition", BOTH, 8, 9, 0).due(0, "asks", 10)
                .due(11, "condition", BOTH, 8, 8, 0).due(1, "asks", 11).due(6143, "ask", 11, 0);
    }

    private static void termsKind8One() {
        says("Terms", "8 ONE of a b (or both)");
        for (int a = 0; a < 2; a++) {
            for (int b = 0; b < 2; b++) {
                withAllAndNone().due(2, "condition", ONE, a, b, 0).due(a + b == 2 ? 0 : 6144, "asks", 2);
            }
        }
        withAskAlone(7, 3, 5, 3, 7).due(10, "condition", ONE, 8, 9, 0).due(6144, "asks", 10)
                .due(11, "condition", ONE, 8, 8, 0).due(1, "asks", 11).due(6143, "ask", 11, 0);
    }

    private static void termsOfConditionsMadeBefore() {
        says("Terms", "of conditions made before");
        for (State state : new State[] {State.NEW, State.SOME}) {
            int itself = conditionsOf(state);
            int[] none = {itself, itself + 1, 59, 60, -1, MIN, MAX};
            for (int number : none) {
                refused(state, BAD, List.of(
                        row("condition", NOT, number, 0, 0),
                        row("condition", BOTH, number, number, 0),
                        row("condition", ONE, number, number, 0),
                        row("condition", MOST, number, number, number)));
            }
        }
        Desk x = withConditions(58).due(BAD, "condition", NOT, 58, 0, 0).due(58, "condition", NOT, 57, 0, 0);
        x.due(BAD, "condition", MOST, 58, 58, 59).due(59, "condition", BOTH, 58, 0, 0);
        x.due(FULL, "condition", NOT, 59, 0, 0).due(BAD, "condition", NOT, 60, 0, 0);
        // A chain through all sixty follows the group at its end.
        Desk chain = new Desk().due(0, "condition", GROUP, 0, 0, 0);
        for (int i = 1; i < 60; i++) {
            chain.due(i, "condition", NOT, i - 1, 0, 0);
        }
        chain.due(6144, "asks", 59).due(1, "member", 7, 0, TRUE).due(5376, "asks", 59).due(768, "asks", 58);
    }

    private static void termsKind9Always() {
        says("Terms", "9 ALWAYS");
        new Desk().due(0, "condition", ALWAYS, 0, 0, 0).due(6144, "asks", 0).due(0, "ask", 0, 0)
                .due(6143, "ask", 0, 6143).due(NO, "ask", 0, 6144);
    }

    private static void termsKind10Most() {
        says("Terms", "10 MOST a b c: at least two of three conditions");
        for (int bits = 0; bits < 8; bits++) {
            int a = bits % 2;
            int b = bits / 2 % 2;
            int c = bits / 4;
            withAllAndNone().due(2, "condition", MOST, a, b, c).due(a + b + c <= 1 ? 6144 : 0, "asks", 2);
        }
        withAskAlone(0, 0, 0, 0, 0).due(10, "condition", MOST, 8, 8, 9).due(1, "asks", 10).due(0, "ask", 10, 0)
                .due(11, "condition", MOST, 9, 8, 9).due(6143, "asks", 11).due(1, "ask", 11, 0);
    }

    private static void termsRulesAreNumberedFrom0AtMost20() {
        says("Terms", "RULES are numbered from 0, at most 20");
        Desk x = withAllAndNone().due(0, "rules").due(BAD, "decides", 0);
        x.due(0, "rule", 9, ALLOWS, 0).due(6144, "decides", 0).due(BAD, "decides", 1);
        for (int i = 1; i < 19; i++) {
            x.due(i, "rule", 9, ALLOWS, 1);
        }
        x.due(19, "rules").due(BAD, "decides", 19);
        x.due(19, "rule", 0, DENIES, 0).due(20, "rules").due(6144, "decides", 19).due(BAD, "decides", 20);
        x.due(FULL, "rule", 0, DENIES, 0).due(20, "rules").due(6144, "decides", 19).due(BAD, "decides", 20);
    }

    private static void termsARankIs0To9() {
        says("Terms", "each has a RANK (0 .. 9, 0 first)");
        for (State state : new State[] {State.SOME, State.CONDITIONS_60, State.RULES_20, State.ALL}) {
            bounds(state, 0, 9, 0, "rule", 0, ALLOWS, 0);
            bounds(state, 0, 9, 0, "rule", 0, DENIES, 0);
        }
        for (int rank = 0; rank < 9; rank++) {
            withAllAndNone().due(0, "rule", rank + 1, DENIES, 0).due(1, "rule", rank, ALLOWS, 0)
                    .due(1, "may", 0, 0, 0, 0, 0, 1).due(6144, "allowed").due(0, "decides", 0);
            withAllAndNone().due(0, "rule", rank, ALLOWS, 0).due(1, "rule", rank + 1, DENIES, 0)
                    .due(0, "may", 7, 3, 5, 3, 7, 1).due(6144, "allowed").due(0, "decides", 1);
        }
        withAllAndNone().due(0, "rule", 9, ALLOWS, 0).due(1, "rule", 0, DENIES, 0).due(0, "allowed");
    }

    private static void termsARuleAllowsOrDenies() {
        says("Terms", "allows or denies, and has a condition");
        withAllAndNone().due(0, "rule", 0, ALLOWS, 0).due(6144, "allowed").due(6144, "decides", 0);
        withAllAndNone().due(0, "rule", 0, DENIES, 0).due(0, "allowed").due(6144, "decides", 0);
        withAllAndNone().due(0, "rule", 0, ALLOWS, 1).due(0, "allowed").due(0, "decides", 0);
        withConditions(60).due(0, "rule", 0, ALLOWS, 59).due(768 * 5, "allowed");
    }

    private static void termsTheFirstRankThatHasAny() {
        says("Terms", "For an ask the rules whose condition holds are looked at: those of the first rank that has any");
        withAskAlone(7, 3, 5, 3, 7)
                .due(0, "rule", 0, DENIES, 9).due(1, "rule", 9, ALLOWS, 8)
                .due(1, "may", 7, 3, 5, 3, 7, 1).due(1, "may", 7, 3, 5, 3, 7, 0)
                .due(0, "may", 7, 3, 5, 3, 6, 1).due(0, "may", 7, 3, 5, 3, 6, 0)
                .due(2, "rule", 8, DENIES, 8).due(2, "may", 7, 3, 5, 3, 7, 1).due(0, "may", 7, 3, 5, 3, 7, 0);
    }

    private static void termsDeniedByTheLeastThatDenies() {
        says("Terms", "if one of them denies, it is denied by the least one that does");
        for (int rank = 0; rank < 10; rank++) {
            Desk x = withRules(17, rank, ALLOWS).due(0, "may", 0, 0, 0, 0, 0, 1);
            x.due(17, "rule", rank, DENIES, 1).due(18, "rule", rank, DENIES, 0).due(19, "rule", rank, DENIES, 0);
            x.due(18, "may", 0, 0, 0, 0, 0, 1).due(0, "may", 0, 0, 0, 0, 0, 0).due(6144, "decides", 18);
            x.due(0, "decides", 0).due(0, "decides", 17).due(0, "decides", 19).due(0, "allowed");
        }
    }

    private static void termsElseAllowedByTheLeast() {
        says("Terms", "else allowed by the least one");
        for (int rank = 0; rank < 10; rank++) {
            Desk x = withRules(20, rank, ALLOWS).due(0, "may", 7, 3, 5, 3, 7, 1).due(1, "may", 7, 3, 5, 3, 7, 0);
            x.due(6144, "decides", 0).due(0, "decides", 1).due(0, "decides", 19).due(6144, "allowed");
        }
    }

    private static void termsDeniedByNone() {
        says("Terms", "If there are no such rules it is denied by none.");
        new Desk().due(0, "may", 0, 0, 0, 0, 0, 0).due(NO, "may", 0, 0, 0, 0, 0, 1)
                .due(0, "may", 7, 3, 5, 3, 7, 0).due(NO, "may", 7, 3, 5, 3, 7, 1);
        withAllAndNone().due(0, "rule", 0, ALLOWS, 1).due(0, "may", 0, 0, 0, 0, 0, 0).due(NO, "may", 0, 0, 0, 0, 0, 1);
        withAskAlone(0, 0, 0, 0, 0).due(0, "rule", 0, ALLOWS, 9)
                .due(0, "may", 0, 0, 0, 0, 0, 0).due(NO, "may", 0, 0, 0, 0, 0, 1).due(0, "may", 0, 0, 0, 0, 1, 1);
    }

    private static void termsThatRuleDecides() {
        says("Terms", "That rule DECIDES it.");
        withAskAlone(7, 3, 5, 3, 7).due(0, "rule", 9, ALLOWS, 9).due(1, "rule", 9, DENIES, 8)
                .due(6143, "decides", 0).due(1, "decides", 1).due(2, "rule", 0, ALLOWS, 8)
                .due(0, "decides", 1).due(1, "decides", 2).due(2, "may", 7, 3, 5, 3, 7, 1);
    }

    // ==== Promise 1 ====

    private static void promise1NoConditionsNoRules() {
        says("Promise 1", "No conditions, no rules");
        new Desk().due(0, "conditions").due(0, "rules").due(0, "allowed");
        new Desk().due(0, "condition", ALWAYS, 0, 0, 0);
        Desk x = new Desk();
        for (String name : new String[] {"asks", "drop", "decides", "matters"}) {
            x.due(BAD, name, 0).due(BAD, name, -1).due(BAD, name, 1);
        }
        x.due(BAD, "ask", 0, 0).due(BAD, "within", 0, 0).due(BAD, "idle", ALLOWS, 0).due(BAD, "idle", DENIES, 0);
        x.due(BAD, "rule", 0, ALLOWS, 0).due(BAD, "rule", 0, DENIES, 0).due(BAD, "condition", NOT, 0, 0, 0);
        for (int i = 0; i < 64; i++) {
            x.due(0, "sees", i / 8, i % 8).due(NO, "apart", i / 8, i % 8).due(NO, "may", i / 8, 3, 5, 3, i % 8, 1);
        }
    }

    private static void promise1NobodyIsInAGroup() {
        says("Promise 1", "nobody is in a group");
        Desk x = new Desk();
        for (int i = 0; i < 64; i++) {
            x.due(0, "member", i / 8, i % 8, FALSE);
        }
        for (int group = 0; group < 8; group++) {
            new Desk().due(0, "condition", GROUP, group, 0, 0).due(0, "asks", 0).due(NO, "ask", 0, 0);
        }
    }

    private static void promise1AnotherObjectIsNew() {
        says("Promise 1", "No conditions, no rules");
        built(State.ALL);
        Desk x = new Desk().due(0, "conditions").due(0, "rules").due(0, "member", 0, 0, FALSE);
        x.due(0, "condition", GROUP, 0, 0, 0).due(0, "asks", 0);
    }

    // ==== Promise 2 ====

    private static void promise2InAGroupOrNot() {
        says("Promise 2", "A person is in a group, or is not: 1");
        for (int i = 0; i < 64; i++) {
            Desk x = new Desk().due(1, "member", i / 8, i % 8, TRUE).due(0, "condition", GROUP, i % 8, 0, 0);
            x.due(768, "asks", 0).due(i / 8 * 768, "ask", 0, 0);
            x.due(1, "member", i / 8, i % 8, FALSE).due(0, "asks", 0);
        }
    }

    private static void promise2WhenThatWasSo() {
        says("Promise 2", "0 when that was so");
        for (int i = 0; i < 64; i++) {
            Desk x = new Desk().due(0, "member", i / 8, i % 8, FALSE).due(1, "member", i / 8, i % 8, TRUE);
            x.due(0, "member", i / 8, i % 8, TRUE).due(0, "condition", GROUP, i % 8, 0, 0).due(768, "asks", 0);
            x.due(1, "member", i / 8, i % 8, FALSE).due(0, "member", i / 8, i % 8, FALSE).due(0, "asks", 0);
        }
        refused(State.SOME, 0, "member", 0, 0, TRUE);
        refused(State.ALL, 0, "member", 7, 6, FALSE);
    }

    private static void promise2Bad() {
        says("Promise 2", "BAD");
        for (int is = FALSE; is <= TRUE; is++) {
            boundsInAll(0, 7, 0, "member", 0, 0, is);
            boundsInAll(0, 7, 0, "member", 0, 7, is);
            boundsInAll(0, 7, 1, "member", 0, 0, is);
            boundsInAll(0, 7, 1, "member", 7, 0, is);
        }
        // These would fall on another person's groups if only their place were looked at.
        for (State state : State.values()) {
            refused(state, BAD, List.of(
                    row("member", 0, 8, TRUE), row("member", 1, -1, TRUE), row("member", 1, -8, FALSE),
                    row("member", -1, 8, FALSE), row("member", -1, 15, FALSE), row("member", 8, -1, TRUE),
                    row("member", 8, 8, TRUE), row("member", -1, -1, TRUE), row("member", MIN, MIN, TRUE),
                    row("member", MAX, MAX, TRUE), row("member", 1 << 29, 0, TRUE), row("member", 0, 63, TRUE)));
        }
    }

    // ==== Promise 3 ====

    private static void promise3ItsNumber() {
        says("Promise 3", "A condition: its number");
        for (int kind = PERSON; kind <= MOST; kind++) {
            Desk x = new Desk().due(0, "condition", ALWAYS, 0, 0, 0);
            for (int i = 1; i < 60; i++) {
                x.due(i, "condition", kind, 0, 0, 0).due(i + 1, "conditions");
            }
        }
    }

    private static final int[] HAS = {1, 1, 1, 1, 1, 2, 1, 2, 2, 0, 3};

    private static void promise3NumbersThatItsKindDoesNotHave() {
        says("Promise 3", "(numbers that its kind does not have are not looked at)");
        for (int kind = PERSON; kind <= MOST; kind++) {
            for (int not : new int[] {-1, 1, 4, 6, 8, 11, 12, 59, 60, MIN, MAX}) {
                int[] n = {kind, 0, 0, 0};
                for (int place = HAS[kind] + 1; place <= 3; place++) {
                    n[place] = not;
                }
                int want = built(State.SOME).due(12, "condition", kind, 0, 0, 0).call("asks", 12);
                built(State.SOME).due(12, "condition", n).due(want, "asks", 12);
            }
        }
    }

    private static void promise3BadWhenANumberIsNone() {
        says("Promise 3", "BAD when a number is none");
        int[] bounds = {8, 8, 4, 6, 4};
        for (int kind = PERSON; kind <= CLASS; kind++) {
            boundsInAll(0, bounds[kind] - 1, 1, "condition", kind, 0, 0, 0);
        }
        boundsOfConditions(1, "condition", NOT, 0, 0, 0);
        for (int kind : new int[] {BOTH, ONE, MOST}) {
            for (int place = 1; place <= HAS[kind]; place++) {
                boundsOfConditions(place, "condition", kind, 0, 0, 0);
            }
        }
        refused(State.SOME, BAD, List.of(
                row("condition", BOTH, 11, 12, 0), row("condition", BOTH, 12, 11, 0), row("condition", ONE, 11, 12, 0),
                row("condition", ONE, 12, 11, 0), row("condition", MOST, 12, 11, 11),
                row("condition", MOST, 11, 12, 11), row("condition", MOST, 11, 11, 12)));
    }

    private static void promise3VersionsWhenAIsAboveB() {
        says("Promise 3", "for VERSIONS also when a is above b");
        for (State state : State.values()) {
            List<Call> above = new ArrayList<>();
            for (int a = 1; a < 8; a++) {
                for (int b = 0; b < a; b++) {
                    above.add(row("condition", VERSIONS, a, b, 0));
                }
            }
            refused(state, BAD, above);
        }
        for (int a = 0; a < 8; a++) {
            built(State.SOME).due(12, "condition", VERSIONS, a, a, 0).due(768, "asks", 12);
        }
        refused(State.SOME, BAD, List.of(
                row("condition", VERSIONS, 8, 8, 0), row("condition", VERSIONS, -1, -1, 0),
                row("condition", VERSIONS, -1, 8, 0), row("condition", VERSIONS, 7, 8, 0),
                row("condition", VERSIONS, -1, 0, 0), row("condition", VERSIONS, MIN, MAX, 0),
                row("condition", VERSIONS, MAX, MIN, 0), row("condition", VERSIONS, 0, MAX, 0),
                row("condition", VERSIONS, MIN, 7, 0), row("condition", VERSIONS, 0, MIN, 0)));
    }

    private static void promise3Full() {
        says("Promise 3", "FULL");
        for (State state : new State[] {State.CONDITIONS_60, State.ALL}) {
            for (int kind = PERSON; kind <= MOST; kind++) {
                refused(state, FULL, "condition", kind, 0, 0, 0);
            }
            refused(state, FULL, List.of(
                    row("condition", NOT, 59, 0, 0), row("condition", MOST, 59, 58, 59),
                    row("condition", ALWAYS, MIN, MAX, -1), row("condition", VERSIONS, 0, 7, 0)));
            refused(state, BAD, List.of(
                    row("condition", NOT, 60, 0, 0), row("condition", MOST, 59, 60, 59), row("condition", 11, 0, 0, 0),
                    row("condition", -1, 0, 0, 0), row("condition", VERSIONS, 7, 6, 0)));
        }
        withConditions(59).due(59, "condition", ALWAYS, 0, 0, 0).due(FULL, "condition", ALWAYS, 0, 0, 0)
                .due(6144, "asks", 59).due(60, "conditions");
    }

    // ==== Promise 4 ====

    private static void promise4ARuleBehindTheOthers() {
        says("Promise 4", "A rule behind the others: its number");
        for (int step = 0; step < 10; step++) {
            Desk x = withAllAndNone();
            for (int i = 0; i < 20; i++) {
                x.due(i, "rule", i * step % 10, i % 2, i % 2).due(i + 1, "rules");
            }
        }
        Desk dropped = withRules(20, 0, ALLOWS).due(19, "drop", 0).due(19, "rule", 0, ALLOWS, 0);
        dropped.due(19, "drop", 19).due(18, "drop", 5).due(18, "rule", 9, DENIES, 0).due(19, "rule", 9, DENIES, 0);
    }

    private static void promise4Bad() {
        says("Promise 4", "BAD");
        for (int denies = ALLOWS; denies <= DENIES; denies++) {
            boundsOfConditions(2, "rule", 0, denies, 0);
            boundsOfConditions(2, "rule", 9, denies, 0);
            bounds(State.SOME, 0, 9, 0, "rule", 0, denies, 11);
            bounds(State.ALL, 0, 9, 0, "rule", 0, denies, 59);
        }
        for (State state : State.values()) {
            refused(state, BAD, List.of(
                    row("rule", 10, ALLOWS, conditionsOf(state)), row("rule", -1, DENIES, -1),
                    row("rule", MIN, DENIES, MIN), row("rule", MAX, ALLOWS, MAX)));
        }
    }

    private static void promise4Full() {
        says("Promise 4", "FULL");
        for (State state : new State[] {State.RULES_20, State.ALL}) {
            List<Call> more = new ArrayList<>();
            for (int rank = 0; rank < 10; rank++) {
                more.add(row("rule", rank, ALLOWS, 0));
                more.add(row("rule", rank, DENIES, 11));
            }
            refused(state, FULL, more);
            refused(state, BAD, List.of(
                    row("rule", 10, ALLOWS, 0), row("rule", -1, ALLOWS, 0), row("rule", 0, DENIES, 60),
                    row("rule", 0, DENIES, -1)));
        }
        withRules(19, 9, DENIES).due(19, "rule", 0, ALLOWS, 0).due(FULL, "rule", 0, DENIES, 0).due(6144, "allowed")
                .due(19, "drop", 0).due(19, "rule", 0, DENIES, 0).due(FULL, "rule", 0, DENIES, 0).due(0, "allowed");
    }

    // ==== Promise 5 ====

    /** Rule i allows version i % 8 alone, by one rank for all. */
    private static Desk withRulesOfVersions(int count) {
        Desk x = new Desk();
        for (int i = 0; i < 8; i++) {
            x.due(i, "condition", VERSIONS, i, i, 0);
        }
        for (int i = 0; i < count; i++) {
            x.due(i, "rule", 4, ALLOWS, i % 8);
        }
        return x;
    }

    private static void promise5ARuleGoes() {
        says("Promise 5", "A rule goes");
        withRules(1, 0, ALLOWS).due(0, "drop", 0).due(0, "rules").due(0, "allowed").due(NO, "may", 0, 0, 0, 0, 0, 1)
                .due(BAD, "drop", 0).due(2, "conditions").due(0, "rule", 0, DENIES, 0);
        for (int gone = 0; gone < 8; gone++) {
            Desk x = withRulesOfVersions(8).due(7, "drop", gone);
            for (int version = 0; version < 8; version++) {
                x.due(version == gone ? 0 : 96, "sees", 7, version);
            }
        }
    }

    private static void promise5ThoseBehindHaveANumberLess() {
        says("Promise 5", "those behind it have a number less");
        for (int gone = 0; gone < 20; gone++) {
            Desk x = withRulesOfVersions(20).due(19, "drop", gone);
            for (int version = 0; version < 8; version++) {
                int rule = version < gone ? version : version > gone ? version - 1 : version + 7;
                x.due(rule, "may", 0, 0, 0, 0, version, 1);
            }
            x.due(BAD, "decides", 19).due(0, "decides", 18);
        }
        Desk ends = withRules(19, 5, ALLOWS).due(19, "rule", 0, DENIES, 0).due(6144, "decides", 19);
        for (int left = 19; left > 0; left--) {
            ends.due(left, "drop", 0).due(6144, "decides", left - 1).due(left - 1, "may", 0, 0, 0, 0, 0, 1);
        }
        ends.due(0, "drop", 0).due(0, "rules");
    }

    private static void promise5HowManyAreLeft() {
        says("Promise 5", "how many are left");
        Desk fromBehind = withRules(20, 9, DENIES);
        Desk fromBefore = withRules(20, 0, ALLOWS);
        for (int left = 19; left >= 0; left--) {
            fromBehind.due(left, "drop", left).due(left, "rules");
            fromBefore.due(left, "drop", 0).due(left, "rules");
        }
        fromBehind.due(BAD, "drop", 0).due(0, "rules");
        fromBefore.due(BAD, "drop", 0).due(0, "rules");
    }

    private static void promise5Bad() {
        says("Promise 5", "BAD");
        boundsOfRules(0, "drop", 0);
    }

    // ==== Promise 6 ====

    private static void promise6AllowedOrNot() {
        says("Promise 6", "Whether an ask is allowed, 1 or 0");
        for (int corner = 0; corner < 2; corner++) {
            int[] n = corner == 0 ? new int[] {0, 0, 0, 0, 0} : new int[] {7, 3, 5, 3, 7};
            Desk x = withAskAlone(n[0], n[1], n[2], n[3], n[4]);
            x.due(0, "may", n[0], n[1], n[2], n[3], n[4], 0);
            x.due(0, "rule", 5, ALLOWS, 8).due(1, "may", n[0], n[1], n[2], n[3], n[4], 0);
            x.due(0, "may", n[0], n[1], n[2], n[3], 3, 0).due(0, "may", n[0], n[1], n[2], 1, n[4], 0);
            x.due(0, "may", n[0], n[1], 1, n[3], n[4], 0).due(0, "may", n[0], 1, n[2], n[3], n[4], 0);
            x.due(0, "may", 1, n[1], n[2], n[3], n[4], 0);
            x.due(1, "rule", 5, DENIES, 8).due(0, "may", n[0], n[1], n[2], n[3], n[4], 0);
        }
    }

    private static void promise6ByWhichRule() {
        says("Promise 6", "and by which rule that is decided (NO for none)");
        new Desk().due(NO, "may", 0, 0, 0, 0, 0, 1).due(NO, "may", 7, 3, 5, 3, 7, 1);
        withRules(1, 0, DENIES).due(0, "may", 0, 0, 0, 0, 0, 1);
        Desk x = withRulesOfVersions(0);
        for (int i = 0; i < 19; i++) {
            x.due(i, "rule", 9, ALLOWS, 0);
        }
        x.due(19, "rule", 0, DENIES, 7).due(19, "may", 7, 3, 5, 3, 7, 1).due(0, "may", 7, 3, 5, 3, 0, 1);
        x.due(NO, "may", 7, 3, 5, 3, 1, 1).due(0, "may", 7, 3, 5, 3, 1, 0);
    }

    private static void promise6What() {
        says("Promise 6", "what = 0, 1");
        boundsInAll(0, 1, 5, "may", 0, 0, 0, 0, 0, 0);
        boundsInAll(0, 1, 5, "may", 7, 3, 5, 3, 7, 0);
    }

    private static void promise6Bad() {
        says("Promise 6", "BAD when a number is none");
        int[] bounds = {8, 4, 6, 4, 8, 2};
        for (int place = 0; place < 6; place++) {
            for (int what = 0; what < 2; what++) {
                boundsInAll(0, bounds[place] - 1, place, "may", 7, 3, 5, 3, 7, what);
                boundsInAll(0, bounds[place] - 1, place, "may", 0, 0, 0, 0, 0, what);
            }
        }
        // Each of these would be the number of an ask if only the number were looked at.
        refused(State.ALL, BAD, List.of(
                row("may", 0, 4, 0, 0, 0, 0), row("may", 1, -1, 0, 0, 0, 0), row("may", 0, 0, 6, 0, 0, 0),
                row("may", 0, 1, -1, 0, 0, 0), row("may", 0, 0, 0, 4, 0, 0), row("may", 0, 0, 1, -1, 0, 0),
                row("may", 0, 0, 0, 0, 8, 0), row("may", 0, 0, 0, 1, -1, 0), row("may", 8, -4, 0, 0, 0, 0),
                row("may", -1, 4, 0, 0, 0, 0), row("may", 0, 0, 0, 0, 6143, 0), row("may", 8, 0, 0, 0, -1, 0),
                row("may", MIN, MIN, MIN, MIN, MIN, MIN), row("may", MAX, MAX, MAX, MAX, MAX, MAX)));
    }

    // ==== Promises 7, 8 and 9 ====

    private static void promise7ForHowManyAsks() {
        says("Promise 7", "For how many asks a condition holds");
        withAllAndNone().due(6144, "asks", 0).due(0, "asks", 1);
        withAskAlone(0, 0, 0, 0, 0).due(1, "asks", 8).due(6143, "asks", 9);
        withAskAlone(7, 3, 5, 3, 7).due(1, "asks", 8).due(6143, "asks", 9);
        withConditions(60).due(6144, "asks", 0).due(3840, "asks", 59);
    }

    private static void promise7Bad() {
        says("Promise 7", "BAD");
        boundsOfConditions(0, "asks", 0);
    }

    private static void promise8AskI() {
        says("Promise 8", "Ask i (from 0, by their numbers) of those for which a condition holds: its number");
        dueAsks(withAllAndNone(), 0, 0, 0, 1, 1, 63, 63, 64, 64, 6142, 6142, 6143, 6143);
        dueAsks(withAskAlone(0, 0, 0, 0, 0), 9, 0, 1, 62, 63, 63, 64, 6142, 6143, 6143, NO);
        dueAsks(withAskAlone(7, 3, 5, 3, 7), 9, 0, 0, 6142, 6142, 6143, NO);
        dueAsks(withAskAlone(0, 0, 1, 3, 7), 9, 62, 62, 63, 64, 64, 65, 6142, 6143);
        Desk x = new Desk().due(0, "condition", VERSIONS, 7, 7, 0);
        for (int i = 0; i < 400; i++) {
            x.due(i * 8 + 7, "ask", 0, i);
        }
    }

    private static void promise8NoneSuch() {
        says("Promise 8", "NO when there is none such");
        Desk x = withAllAndNone();
        dueAsks(x, 0, 6144, NO, 6145, NO, -1, NO, -2, NO, MIN, NO, MIN + 1, NO, MAX, NO, MAX - 1, NO, 1 << 30, NO);
        dueAsks(x, 1, 0, NO, 1, NO, -1, NO, 6143, NO, MIN, NO, MAX, NO);
        dueAsks(withAskAlone(0, 0, 0, 0, 0), 8, 0, 0, 1, NO, -1, NO, MIN, NO, MAX, NO);
        dueAsks(withAskAlone(7, 3, 5, 3, 7), 8, 0, 6143, 1, NO, -1, NO, MIN, NO, MAX, NO);
    }

    private static void promise8Bad() {
        says("Promise 8", "BAD");
        for (int i : new int[] {0, -1, 6143, 6144, MIN, MAX}) {
            boundsOfConditions(0, "ask", 0, i);
        }
    }

    private static void promise9Within() {
        says("Promise 9", "Whether b holds for all asks for which a does: 1 or 0");
        withAllAndNone().due(1, "within", 0, 0).due(0, "within", 0, 1).due(1, "within", 1, 0).due(1, "within", 1, 1);
        for (int corner = 0; corner < 2; corner++) {
            Desk x = corner == 0 ? withAskAlone(0, 0, 0, 0, 0) : withAskAlone(7, 3, 5, 3, 7);
            x.due(10, "condition", ALWAYS, 0, 0, 0).due(11, "condition", NOT, 10, 0, 0);
            x.due(0, "within", 10, 9).due(1, "within", 9, 10).due(0, "within", 8, 9).due(0, "within", 9, 8);
            x.due(1, "within", 8, 10).due(0, "within", 10, 8).due(0, "within", 8, 11).due(1, "within", 11, 8);
        }
        withConditions(60).due(1, "within", 59, 0).due(0, "within", 0, 59).due(1, "within", 59, 59);
    }

    private static void promise9Bad() {
        says("Promise 9", "BAD");
        boundsOfConditions(0, "within", 0, 0);
        boundsOfConditions(1, "within", 0, 0);
        bounds(State.ALL, 0, 59, 0, "within", 0, 59);
        bounds(State.ALL, 0, 59, 1, "within", 59, 0);
        // The second number is looked at too where the first condition holds for no ask.
        withAllAndNone().due(BAD, "within", 1, 2).due(BAD, "within", 1, -1).due(BAD, "within", 2, 2);
    }

    // ==== Promises 10, 11 and 12 ====

    private static void promise10HowManyItDecides() {
        says("Promise 10", "How many asks a rule decides");
        withRules(20, 3, ALLOWS).due(6144, "decides", 0).due(0, "decides", 1).due(0, "decides", 19);
        withAllAndNone().due(0, "rule", 0, ALLOWS, 1).due(0, "decides", 0).due(1, "rule", 9, DENIES, 0)
                .due(6144, "decides", 1);
        withAskAlone(7, 3, 5, 3, 7).due(0, "rule", 9, ALLOWS, 8).due(1, "decides", 0).due(1, "rule", 0, DENIES, 9)
                .due(1, "decides", 0).due(6143, "decides", 1);
        withRules(19, 9, ALLOWS).due(19, "rule", 9, DENIES, 0).due(6144, "decides", 19).due(0, "decides", 0);
    }

    private static void promise10Bad() {
        says("Promise 10", "BAD");
        boundsOfRules(0, "decides", 0);
    }

    private static void promise11HowManyAreAllowed() {
        says("Promise 11", "How many asks of a person are allowed in a version");
        new Desk().due(0, "sees", 0, 0).due(0, "sees", 7, 7);
        Desk all = withRules(1, 9, ALLOWS);
        for (int i = 0; i < 64; i++) {
            all.due(96, "sees", i / 8, i % 8);
        }
        for (int i = 0; i < 64; i++) {
            Desk x = withAskAlone(i / 8, 3, 5, 3, i % 8).due(0, "rule", 0, ALLOWS, 8);
            for (int k = 0; k < 64; k++) {
                x.due(k == i ? 1 : 0, "sees", k / 8, k % 8);
            }
            x.due(1, "rule", 0, ALLOWS, 9).due(1, "drop", 0);
            for (int k = 0; k < 64; k++) {
                x.due(k == i ? 95 : 96, "sees", k / 8, k % 8);
            }
        }
    }

    private static void promise11Bad() {
        says("Promise 11", "BAD");
        boundsInAll(0, 7, 0, "sees", 0, 0);
        boundsInAll(0, 7, 0, "sees", 0, 7);
        boundsInAll(0, 7, 1, "sees", 0, 0);
        boundsInAll(0, 7, 1, "sees", 7, 0);
    }

    private static void promise12HowManyWouldBeAnsweredOtherwise() {
        says("Promise 12", "How many asks would be answered otherwise (allowed or not) without a rule");
        withRules(1, 0, ALLOWS).due(6144, "matters", 0);
        withRules(1, 0, DENIES).due(0, "matters", 0).due(6144, "decides", 0);
        withRules(2, 0, ALLOWS).due(0, "matters", 0).due(0, "matters", 1);
        withRules(19, 0, ALLOWS).due(19, "rule", 0, DENIES, 0).due(6144, "matters", 19).due(0, "matters", 0);
        withRules(19, 0, DENIES).due(19, "rule", 9, ALLOWS, 0).due(0, "matters", 19).due(0, "matters", 0);
        withAllAndNone().due(0, "rule", 9, ALLOWS, 0).due(1, "rule", 0, DENIES, 0).due(6144, "matters", 1)
                .due(2, "rule", 8, DENIES, 0).due(0, "matters", 1).due(0, "matters", 2).due(3, "rules");
        withAskAlone(7, 3, 5, 3, 7).due(0, "rule", 0, DENIES, 8).due(1, "rule", 9, ALLOWS, 9).due(0, "matters", 0)
                .due(2, "rule", 9, ALLOWS, 8).due(1, "matters", 0).due(6143, "matters", 1).due(0, "matters", 2);
    }

    private static void promise12Bad() {
        says("Promise 12", "BAD");
        boundsOfRules(0, "matters", 0);
    }

    // ==== Promises 13 and 14 ====

    private static void promise13TheLeastRank() {
        says("Promise 13", "The least rank that a rule of that condition, allowing or denying, behind all others, "
                + "could have (0 .. 9) so that it decides nothing at all");
        withAllAndNone().due(0, "idle", ALLOWS, 1).due(0, "idle", DENIES, 1);
        for (int rank = 0; rank < 10; rank++) {
            withRules(1, rank, DENIES).due(rank, "idle", DENIES, 0).due(rank, "idle", ALLOWS, 0);
            withRules(1, rank, ALLOWS).due(rank + 1, "idle", DENIES, 0).due(rank, "idle", ALLOWS, 0)
                    .due(0, "idle", DENIES, 1).due(0, "idle", ALLOWS, 1);
            withRules(20, rank, ALLOWS).due(rank + 1, "idle", DENIES, 0).due(rank, "idle", ALLOWS, 0).due(20, "rules");
            withAskAlone(7, 3, 5, 3, 7).due(0, "rule", 0, DENIES, 9).due(1, "rule", rank, DENIES, 8)
                    .due(10, "condition", ALWAYS, 0, 0, 0)
                    .due(rank, "idle", ALLOWS, 10).due(rank, "idle", DENIES, 8).due(0, "idle", DENIES, 9);
        }
    }

    private static void promise13SomethingByEach() {
        says("Promise 13", "10 when it decides something by each");
        withAllAndNone().due(10, "idle", ALLOWS, 0).due(10, "idle", DENIES, 0);
        withRules(1, 9, ALLOWS).due(9, "idle", ALLOWS, 0).due(10, "idle", DENIES, 0);
        withRules(20, 9, ALLOWS).due(9, "idle", ALLOWS, 0).due(10, "idle", DENIES, 0);
        withRules(1, 9, DENIES).due(9, "idle", ALLOWS, 0).due(9, "idle", DENIES, 0);
        for (int corner = 0; corner < 2; corner++) {
            Desk x = corner == 0 ? withAskAlone(0, 0, 0, 0, 0) : withAskAlone(7, 3, 5, 3, 7);
            x.due(0, "rule", 0, DENIES, 9).due(10, "condition", ALWAYS, 0, 0, 0);
            x.due(10, "idle", ALLOWS, 10).due(10, "idle", DENIES, 10).due(10, "idle", ALLOWS, 8);
            x.due(0, "idle", ALLOWS, 9).due(0, "idle", DENIES, 9);
        }
    }

    private static void promise13Bad() {
        says("Promise 13", "BAD");
        boundsOfConditions(1, "idle", ALLOWS, 0);
        boundsOfConditions(1, "idle", DENIES, 0);
    }

    private static void promise14TheLeastAsk() {
        says("Promise 14", "The least ask (its number) that one person may and the other one may not, or the other "
                + "way round, with all else alike (told by the first one's)");
        for (int person = 0; person < 8; person++) {
            Desk first = withAskAlone(person, 0, 0, 0, 0).due(0, "rule", 0, ALLOWS, 8);
            Desk last = withAskAlone(person, 3, 5, 3, 7).due(0, "rule", 0, ALLOWS, 9);
            for (int other = 0; other < 8; other++) {
                boolean same = person == other;
                first.due(same ? NO : person * 768, "apart", person, other);
                first.due(same ? NO : other * 768, "apart", other, person);
                last.due(same ? NO : person * 768 + 767, "apart", person, other);
                last.due(same ? NO : other * 768 + 767, "apart", other, person);
            }
        }
    }

    private static void promise14None() {
        says("Promise 14", "NO when there is none");
        for (Desk x : List.of(new Desk(), withRules(1, 0, ALLOWS), withRules(20, 9, DENIES))) {
            for (int i = 0; i < 64; i++) {
                x.due(NO, "apart", i / 8, i % 8);
            }
        }
        Desk x = built(State.ALL);
        for (int person = 0; person < 8; person++) {
            x.due(NO, "apart", person, person);
        }
    }

    private static void promise14Bad() {
        says("Promise 14", "BAD");
        boundsInAll(0, 7, 0, "apart", 0, 0);
        boundsInAll(0, 7, 1, "apart", 0, 0);
        for (State state : State.values()) {
            List<Call> twice = new ArrayList<>();
            for (int number : outside(0, 7)) {
                twice.add(row("apart", number, number));
            }
            refused(state, BAD, twice);
        }
    }

    // ==== Promises 15, 16 and 17 ====

    private static void promise15HowManyAreAllowed() {
        says("Promise 15", "How many asks are allowed in all");
        new Desk().due(0, "allowed");
        withRules(20, 9, ALLOWS).due(6144, "allowed");
        withRules(20, 0, DENIES).due(0, "allowed");
        withAskAlone(0, 0, 0, 0, 0).due(0, "rule", 9, ALLOWS, 8).due(1, "allowed").due(1, "rule", 0, ALLOWS, 9)
                .due(6144, "allowed").due(1, "drop", 0).due(6143, "allowed").due(0, "drop", 0).due(0, "allowed");
        withAskAlone(7, 3, 5, 3, 7).due(0, "rule", 9, ALLOWS, 8).due(1, "allowed").due(1, "rule", 9, DENIES, 8)
                .due(0, "allowed").due(2, "rule", 9, ALLOWS, 9).due(6143, "allowed");
    }

    private static void promise16HowManyConditions() {
        says("Promise 16", "How many conditions there are");
        Desk x = new Desk();
        for (int i = 0; i < 60; i++) {
            x.due(i, "conditions").due(BAD, "condition", NOT, i, 0, 0).due(i, "conditions");
            x.due(i, "condition", ALWAYS, 0, 0, 0);
        }
        x.due(60, "conditions").due(FULL, "condition", ALWAYS, 0, 0, 0).due(60, "conditions");
        x.due(0, "rule", 0, ALLOWS, 59).due(0, "drop", 0).due(60, "conditions");
    }

    private static void promise17HowManyRules() {
        says("Promise 17", "How many rules there are");
        Desk x = withAllAndNone();
        for (int i = 0; i < 20; i++) {
            x.due(i, "rules").due(BAD, "rule", 10, ALLOWS, 0).due(BAD, "drop", i).due(i, "rules");
            x.due(i, "rule", i % 10, DENIES, 1);
        }
        x.due(20, "rules").due(FULL, "rule", 0, ALLOWS, 0).due(20, "rules").due(19, "drop", 19).due(19, "rules");
    }

    // ==== The document itself ====

    /** The document's sections by their headings, without what stands behind the heading's colon. */
    private static Map<String, String> sections() throws IOException {
        Map<String, String> found = new TreeMap<>();
        for (String part : Files.readString(DOCUMENT).split("(?m)^## ")) {
            int end = part.indexOf('\n');
            if (end > 0) {
                found.put(part.substring(0, end).split(":")[0].trim(), part.substring(end).replaceAll("\\s+", " ").trim());
            }
        }
        return found;
    }

    private static void everySentenceHasItsTest() throws IOException {
        Map<String, String> left = sections();
        Map<String, String> all = sections();
        // Longer words first, so that a "BAD" does not cut a longer sentence in two.
        QUOTES.sort((one, other) -> other[1].length() - one[1].length());
        for (String[] quote : QUOTES) {
            label = "the document, section " + quote[0];
            if (!all.getOrDefault(quote[0], "").contains(quote[1])) {
                fault("does not have the words \"" + quote[1] + "\"");
            }
            left.computeIfPresent(quote[0], (section, text) -> text.replace(quote[1], " "));
        }
        for (Map.Entry<String, String> section : left.entrySet()) {
            String rest = section.getValue().replaceFirst("^`[^`]*`:", "");
            boolean tested = section.getKey().equals("Terms") || section.getKey().startsWith("Promise");
            if (tested && rest.matches("(?s).*[A-Za-z0-9].*")) {
                label = "the document, section " + section.getKey();
                fault("has words that no test quotes: " + rest.trim());
            }
        }
    }

    private static boolean isTest(Method method) {
        return method.getParameterCount() == 0 && method.getName().matches("(whatItIs|terms|promise).+");
    }

    public static void main(String[] args) throws ReflectiveOperationException, IOException {
        Map<String, Method> tests = new TreeMap<>();
        for (Method method : RightDeskBounds.class.getDeclaredMethods()) {
            if (isTest(method)) {
                tests.put(method.getName(), method);
            }
        }
        for (Method test : tests.values()) {
            int before = wrong;
            test.invoke(null);
            if (wrong != before) {
                System.out.println("FAILED: " + test.getName() + ", " + (wrong - before) + " faults");
            }
        }
        if (Files.isReadable(DOCUMENT)) {
            everySentenceHasItsTest();
        } else {
            System.out.println("the document is not at " + DOCUMENT + ": its words are not looked at");
        }
        System.out.println(wrong == 0 ? tests.size() + " tests of bounds hold" : wrong + " faults");
        if (wrong != 0) {
            System.exit(1);
        }
    }
}
