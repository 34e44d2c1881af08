/**
 * The sentences that name a boundary case in the document's first section and in its section "Terms", in their order,
 * each with a test of its own.
 */
public final class TermsTests {
    private static final Due DUE = new Due("TermsTests");

    public static void main(String[] args) {
        calls();
        termsOfTriples();
        termsAndVariablesOfPatterns();
        termsAndVariablesOfFilters();
        variablesOfRows();
        mostTriples();
        orderOfTriples();
        mostPatterns();
        matches();
        matchesOneTermForAVariable();
        mostFilters();
        filterKinds();
        filterOfNothing();
        sizes();
        spreads();
        estimatesOfShared();
        estimatesRoundedUp();
        estimatesAtTheEnds();
        costs();
        goodByHints();
        goodByVariables();
        leastNumber();
        orderOfOptional();
        filtersThatAreSafe();
        filtersThatAreOthers();
        rowsAtFirst();
        rowsInOrder();
        optionalFindsNone();
        optionalIsLeft();
        filtersBehindAStep();
        noPatterns();
        firstRefusalThatFits();
        DUE.end();
    }

    private static void calls() {
        DUE.sentence("What it is", "An object is used for at most 512 calls after it has been made");
        JoinOrder x = new JoinOrder();
        Given.tellSubjects(x, 0, 0, 22);
        x.pattern(-1, 0, 0);
        x.pattern(-2, 0, 0);
        for (int i = 25; i < 512; i++) {
            DUE.answer("run() as call " + i, x.run(), 484);
        }
        DUE.answer("keeps() as call 512", x.keeps(), true);
    }

    private static void termsOfTriples() {
        DUE.sentence("Terms", "TERMS are 0 .. 31 (in a TRIPLE)");
        for (int place = 0; place < 3; place++) {
            JoinOrder x = new JoinOrder();
            for (int outside : Given.NO_TERMS) {
                int[] parts = Given.placed(place, outside, 0);
                DUE.answer(Due.said("triple", parts), Given.triple(x, parts), -2);
            }
            for (int term = 0; term < 32; term++) {
                int[] parts = Given.placed(place, term, 31);
                DUE.answer(Due.said("triple", parts), Given.triple(x, parts), term + 1);
            }
        }
    }

    private static void termsAndVariablesOfPatterns() {
        DUE.sentence("Terms", "TERMS are 0 .. 31, VARIABLES -1 .. -8 (in a PATTERN)");
        for (int place = 0; place < 3; place++) {
            for (int term = 0; term < 32; term++) {
                JoinOrder x = new JoinOrder();
                Given.triple(x, Given.placed(place, 31 - term, 7));
                Given.triple(x, Given.placed(place, term, 7));
                int[] parts = Given.placed(place, term, 7);
                DUE.answer(Due.said("pattern", parts), Given.pattern(x, parts), 0);
                DUE.answer("run() with " + Due.said("pattern", parts), x.run(), 1);
            }
            for (int variable = -8; variable <= -1; variable++) {
                JoinOrder x = new JoinOrder();
                Given.triple(x, Given.placed(place, 31, 7));
                Given.triple(x, Given.placed(place, 0, 7));
                int[] parts = Given.placed(place, variable, 7);
                DUE.answer(Due.said("pattern", parts), Given.pattern(x, parts), 0);
                DUE.answer("run() with " + Due.said("pattern", parts), x.run(), 2);
                DUE.answer(Due.said("row", 0, variable), x.row(0, variable), 31);
                DUE.answer(Due.said("row", 1, variable), x.row(1, variable), 0);
            }
            for (int outside : Given.NEITHER) {
                int[] parts = Given.placed(place, outside, 7);
                DUE.answer(Due.said("pattern", parts), Given.pattern(new JoinOrder(), parts), -2);
            }
        }
    }

    private static void termsAndVariablesOfFilters() {
        DUE.sentence("Terms", "TERMS are 0 .. 31, VARIABLES -1 .. -8 (in a FILTER)");
        for (int term = 0; term < 32; term++) {
            JoinOrder x = new JoinOrder();
            Given.tellSubjects(x, 0, 0, 32);
            x.pattern(-1, 0, 0);
            DUE.answer("filter of value " + term, x.filter(-1, 0, term, true), 0);
            DUE.answer("run() with it", x.run(), 1);
            DUE.row(x, 0, term);
        }
        for (int variable = -8; variable <= -1; variable++) {
            JoinOrder x = Given.withTriples(1, 1, 1);
            x.pattern(variable, 1, 1);
            DUE.answer("filter of variable " + variable, x.filter(variable, 0, 1, true), 0);
            DUE.answer("run() with it", x.run(), 1);
        }
        JoinOrder x = new JoinOrder();
        for (int outside : Given.NO_TERMS) {
            DUE.answer("filter of value " + outside, x.filter(-1, 0, outside, true), -2);
        }
        for (int outside : Given.NO_VARIABLES) {
            DUE.answer("filter of variable " + outside, x.filter(outside, 0, 0, true), -2);
        }
    }

    private static void variablesOfRows() {
        DUE.sentence("Terms", "VARIABLES -1 .. -8 (of a ROW)");
        JoinOrder x = new JoinOrder();
        for (int i = 0; i < 8; i++) {
            x.triple(31 - i, i, 0);
            x.pattern(-1 - i, i, 0);
        }
        DUE.answer("run()", x.run(), 1);
        DUE.row(x, 0, 31, 30, 29, 28, 27, 26, 25, 24);
        for (int outside : Given.NO_VARIABLES) {
            DUE.answer(Due.said("row", 0, outside), x.row(0, outside), -2);
        }
        for (int term = 0; term < 32; term += 31) {
            dueAllBoundTo(term);
        }
    }

    /** What one VARIABLE is bound to leaves the others alone, whichever comes first. */
    private static void dueAllBoundTo(int term) {
        for (int first = 0; first < 8; first++) {
            JoinOrder x = new JoinOrder();
            for (int i = 0; i < 8; i++) {
                x.triple(term, i, 0);
                x.pattern(-1 - i, i, 0);
            }
            x.triple(31 - term, first, 0);
            for (int i = 0; i < 8; i++) {
                x.hint(first, i);
            }
            DUE.answer("run() with two for one VARIABLE", x.run(), 2);
            for (int i = 0; i < 8; i++) {
                DUE.answer(Due.said("row", 0, -1 - i), x.row(0, -1 - i), term);
                DUE.answer(Due.said("row", 1, -1 - i), x.row(1, -1 - i), i == first ? 31 - term : term);
            }
        }
    }

    private static void mostTriples() {
        DUE.sentence("Terms", "TRIPLES, at most 80");
        JoinOrder x = new JoinOrder();
        x.pattern(-1, -2, -3);
        for (int i = 0; i < 80; i++) {
            DUE.answer(Due.said("triple", i % 32, 31, i / 32), x.triple(i % 32, 31, i / 32), i + 1);
        }
        DUE.answer("the next one", x.triple(16, 31, 2), -4);
        DUE.answer("and another one", x.triple(0, 0, 0), -4);
        DUE.answer("run()", x.run(), 80);
        DUE.row(x, 79, 15, 31, 2);
        DUE.rows(x, 80);
        DUE.answer("estimate(0)", x.estimate(0), 80);
    }

    private static void orderOfTriples() {
        DUE.sentence("Terms", "come in the order in which they are told");
        JoinOrder x = Given.withTriples(31, 0, 0, 0, 0, 31, 31, 0, 0, 15, 0, 15, 0, 0, 0, 0, 0, 31);
        x.pattern(-1, 0, -2);
        DUE.answer("run()", x.run(), 4);
        DUE.row(x, 0, 31, 0);
        DUE.row(x, 1, 0, 31);
        DUE.row(x, 2, 15, 15);
        DUE.row(x, 3, 0, 0);
        x.triple(1, 0, 1);
        x.pattern(-1, 0, -3);
        DUE.answer("run()", x.run(), 7);
        DUE.row(x, 6, 1, 1, 1);
    }

    private static void mostPatterns() {
        DUE.sentence("Terms", "A PATTERN, at most 8, numbered from 0 on");
        JoinOrder x = Given.withTriples(1, 2, 3);
        for (int i = 0; i < 8; i++) {
            DUE.answer("pattern " + i, x.pattern(-1 - i, 2, 3), i);
        }
        DUE.answer("the ninth", x.pattern(-1, 2, 4), -4);
        DUE.answer("plan()", x.plan(), 8);
        DUE.answer("run()", x.run(), 1);
        DUE.row(x, 0, 1, 1, 1, 1, 1, 1, 1, 1);
        DUE.answer(Due.said("cost", 8, 0), x.cost(8, 0), -1);
        DUE.answer(Due.said("cost", 7, 0), x.cost(7, 0), 1);
    }

    private static void matches() {
        DUE.sentence("Terms", "it MATCHES a TRIPLE that has its TERMS");
        JoinOrder x = Given.withTriples(1, 2, 3, 1, 2, 4, 1, 4, 3, 4, 2, 3, 3, 2, 1);
        x.pattern(1, 2, 3);
        DUE.answer("run() of no VARIABLES", x.run(), 1);
        DUE.row(x, 0, -1, -1, -1);
        int[][] rows = {{-1, 2, 3, 2}, {1, -1, 3, 2}, {1, 2, -1, 2}, {-1, -2, 3, 3}, {-1, 2, -2, 4}, {1, -1, -2, 3},
            {-1, -2, -3, 5}, {2, -1, -2, 0}, {-1, -2, 0, 0}, {-1, 31, -2, 0}};
        for (int[] due : rows) {
            x = Given.withTriples(1, 2, 3, 1, 2, 4, 1, 4, 3, 4, 2, 3, 3, 2, 1);
            x.pattern(due[0], due[1], due[2]);
            DUE.answer("run() of " + Due.said("pattern", due[0], due[1], due[2]), x.run(), due[3]);
        }
        x = new JoinOrder();
        x.pattern(-1, -2, -3);
        DUE.answer("run() over no TRIPLES", x.run(), 0);
    }

    private static void matchesOneTermForAVariable() {
        DUE.sentence("Terms", "and one TERM for each VARIABLE of it");
        int[][] rows = {{-1, -1, -2, 2}, {-1, -2, -1, 3}, {-2, -1, -1, 4}, {-1, -1, -1, 1}, {-1, -1, 0, 1}, {-1, -1, 5, 1},
            {-8, -7, -8, 3}, {-8, 0, -8, 1}};
        for (int[] due : rows) {
            JoinOrder x = Given.withTriples(0, 0, 0, 31, 31, 5, 31, 5, 31, 31, 6, 31, 5, 31, 31, 6, 31, 31, 7, 31, 31, 1, 2, 3);
            x.pattern(due[0], due[1], due[2]);
            DUE.answer("run() of " + Due.said("pattern", due[0], due[1], due[2]), x.run(), due[3]);
        }
    }

    private static void mostFilters() {
        DUE.sentence("Terms", "A FILTER, at most 8, numbered from 0 on");
        JoinOrder x = new JoinOrder();
        Given.tellSubjects(x, 0, 0, 32);
        x.pattern(-1, 0, 0);
        for (int i = 0; i < 8; i++) {
            DUE.answer("filter " + i, x.filter(-1, 1, i, i % 2 == 0), i);
        }
        DUE.answer("the ninth", x.filter(-1, 1, 8, true), -4);
        DUE.answer("run()", x.run(), 24);
        DUE.row(x, 0, 8);
        DUE.answer(Due.said("step", 0, 2), x.step(0, 2), 8);
        DUE.answer(Due.said("move", 7), x.move(7), 0);
        DUE.answer(Due.said("move", 8), x.move(8), -1);
    }

    private static void filterKinds() {
        DUE.sentence("Terms", "it holds of a TERM that is (kind 0) its value, is not (1), is less (2), is greater (3)");
        for (int value : new int[] {0, 1, 15, 30, 31}) {
            int[] rows = {1, 31, value, 31 - value};
            int[] first = {value, value == 0 ? 1 : 0, 0, value + 1};
            for (int kind = 0; kind < 4; kind++) {
                JoinOrder x = new JoinOrder();
                Given.tellSubjects(x, 0, 0, 32);
                x.pattern(-1, 0, 0);
                x.filter(-1, kind, value, true);
                DUE.answer("run() with kind " + kind + ", value " + value, x.run(), rows[kind]);
                if (rows[kind] > 0) {
                    DUE.row(x, 0, first[kind]);
                }
            }
        }
    }

    private static void filterOfNothing() {
        DUE.sentence("Terms", "never of nothing");
        for (int kind = 0; kind < 4; kind++) {
            for (int value : new int[] {0, 1, 31}) {
                String what = "kind " + kind + ", value " + value;
                JoinOrder x = Given.withTriples(1, 0, 1);
                x.pattern(-1, 0, 1);
                x.filter(-2, kind, value, true);
                DUE.answer("run() of a VARIABLE that none has, " + what, x.run(), 0);
                x = Given.withTriples(1, 0, 1);
                x.pattern(-1, 0, 1);
                x.filter(-8, kind, value, false);
                DUE.answer("run() of a VARIABLE that none has, not safe, " + what, x.run(), 0);
                x = Given.withTriples(1, 0, 1);
                x.pattern(-1, 0, 1);
                x.pattern(-1, 1, -2);
                x.optional(1, 0);
                x.filter(-2, kind, value, true);
                DUE.answer("run() with an OPTIONAL one that finds none, " + what, x.run(), 0);
            }
        }
    }

    private static void sizes() {
        DUE.sentence("Terms", "SIZE of a PATTERN: how many TRIPLES it MATCHES, or what is told");
        JoinOrder x = new JoinOrder();
        x.pattern(-1, -2, -3);
        x.plan();
        DUE.answer("estimate(0) of none", x.estimate(0), 0);
        for (int i = 1; i <= 80; i++) {
            x.triple(i % 32, i / 32, 0);
            x.plan();
            DUE.answer("estimate(0) of " + i, x.estimate(0), i);
        }
        for (int told : new int[] {0, 1, 79, 80, 81, 99, 100}) {
            x.cost(0, told);
            x.plan();
            DUE.answer("estimate(0), told " + told, x.estimate(0), told);
        }
        DUE.answer("run(), told 100", x.run(), 80);
    }

    /** Patterns 0 and 1, of SIZE 100 each, share VARIABLE -1, of which 0 has that many TERMS, and 1 none. */
    private static void dueOfSpread(int place, int terms, long estimate) {
        JoinOrder x = new JoinOrder();
        for (int term = 0; term < terms; term++) {
            Given.triple(x, Given.placed(place, term, 30));
            int[] again = Given.placed(place, term, 30);
            again[(place + 1) % 3] = 31;
            Given.triple(x, again);
        }
        int[] parts = Given.placed(place, -1, -2);
        parts[(place + 1) % 3] = -3;
        Given.pattern(x, parts);
        x.pattern(-1, 29, 29);
        x.cost(0, 100);
        x.cost(1, 100);
        x.plan();
        DUE.answer("estimate(1), place " + place + ", terms " + terms, x.estimate(1), estimate);
    }

    private static void spreads() {
        DUE.sentence("Terms", "SPREAD of a VARIABLE in it: how many different TERMS it has there, at least 1");
        for (int place = 0; place < 3; place++) {
            dueOfSpread(place, 0, 10000);
            dueOfSpread(place, 1, 10000);
            dueOfSpread(place, 2, 5000);
            dueOfSpread(place, 3, 3334);
            dueOfSpread(place, 31, 323);
            dueOfSpread(place, 32, 313);
        }
    }

    /** Pattern i has VARIABLE -1 with the SPREAD spreads[i], and the SIZE 100. */
    private static JoinOrder withSpreads(int... spreads) {
        JoinOrder x = new JoinOrder();
        for (int i = 0; i < spreads.length; i++) {
            Given.tellSubjects(x, i, 0, spreads[i]);
            x.pattern(-1, i, 0);
            x.cost(i, 100);
        }
        return x;
    }

    private static void dueOfSpreads(long estimate, int... spreads) {
        JoinOrder x = withSpreads(spreads);
        int steps = x.plan();
        DUE.answer(Due.said("estimate of spreads", spreads), x.estimate(steps - 1), estimate);
    }

    private static void estimatesOfShared() {
        DUE.sentence("Terms", "divided, for each VARIABLE that two or more of them have, by all its SPREADS there but the"
                + " least one");
        dueOfSpreads(100, 5);
        dueOfSpreads(2000, 5, 5);
        dueOfSpreads(2000, 5, 3);
        dueOfSpreads(2000, 3, 5);
        dueOfSpreads(2000, 1, 5);
        dueOfSpreads(2000, 0, 5);
        dueOfSpreads(2000, 5, 0);
        dueOfSpreads(10000, 0, 0);
        dueOfSpreads(40000, 0, 5, 5);
        dueOfSpreads(40000, 5, 0, 5);
        dueOfSpreads(200000, 0, 0, 5);
        dueOfSpreads(10000, 1, 1);
        dueOfSpreads(40000, 5, 5, 5);
        dueOfSpreads(40000, 5, 5, 4);
        dueOfSpreads(50000, 4, 5, 4);
        dueOfSpreads(50000, 4, 4, 5);
        dueOfSpreads(200000, 5, 1, 1);
        dueOfSpreads(1000000000L, 10, 10, 10, 10, 10, 10, 10, 10);
        dueOfSpreads(2000000000L, 1, 5, 10, 10, 10, 10, 10, 10);
        JoinOrder x = new JoinOrder();
        Given.tellSubjects(x, 0, 0, 5);
        x.pattern(-1, 0, 0);
        x.pattern(-2, 0, 0);
        x.cost(0, 100);
        x.cost(1, 100);
        x.plan();
        DUE.answer("estimate(1), no two have one", x.estimate(1), 10000);
        x = Given.withTriples(0, 0, 0, 1, 0, 1, 2, 0, 2, 3, 0, 3);
        x.pattern(-1, 0, -1);
        x.pattern(-2, 0, -2);
        x.cost(0, 100);
        x.plan();
        DUE.answer("estimate(1), one has it twice", x.estimate(1), 400);
        x.pattern(-1, 0, -2);
        x.plan();
        DUE.answer("estimate(2), two VARIABLES that two have", x.estimate(2), 100);
    }

    private static void estimatesRoundedUp() {
        DUE.sentence("Terms", "rounded up");
        int[][] due = {{0, 0, 0}, {0, 100, 0}, {1, 1, 1}, {2, 3, 1}, {7, 1, 1}, {8, 1, 2}, {13, 1, 2}, {7, 2, 2}, {5, 3, 3},
            {99, 7, 99}, {100, 7, 100}, {100, 100, 1429}, {99, 100, 1415}};
        for (int[] d : due) {
            JoinOrder x = withSpreads(7, 2);
            x.cost(0, d[0]);
            x.cost(1, d[1]);
            x.plan();
            DUE.answer(Due.said("estimate(1) of sizes", d[0], d[1]), x.estimate(1), d[2]);
        }
        // 125 over 7 * 3 is 5.95.
        JoinOrder x = Given.withTriples(0, 1, 0, 1, 1, 1, 2, 1, 2, 3, 1, 0, 4, 1, 1, 5, 1, 2, 6, 1, 0);
        x.pattern(-1, 1, -2);
        x.pattern(-1, 2, 0);
        x.pattern(-2, 3, 0);
        x.cost(0, 5);
        x.cost(1, 5);
        x.cost(2, 5);
        x.plan();
        DUE.answer("estimate(2)", x.estimate(2), 6);
    }

    private static void estimatesAtTheEnds() {
        DUE.sentence("Terms", "the product of their SIZES");
        JoinOrder x = Given.withSizes(100, 100, 100, 100, 100, 100, 100, 100);
        x.plan();
        DUE.estimates(x, 100, 10000, 1000000, 100000000L, 10000000000L, 1000000000000L, 100000000000000L,
                10000000000000000L, -1);
        x.cost(7, 0);
        x.plan();
        DUE.estimates(x, 0, 0, 0, 0, 0, 0, 0, 0, -1);
        x = Given.withSizes(0);
        x.plan();
        DUE.estimates(x, 0, -1);
        x = Given.withSizes(100);
        x.plan();
        DUE.estimates(x, 100, -1);
        x = withSpreads(32, 32);
        x.cost(0, 0);
        x.plan();
        DUE.estimates(x, 0, 0, -1);
    }

    private static void costs() {
        DUE.sentence("Terms", "its COST is the sum of THE ESTIMATES of the first one, the first two, and so on");
        DUE.order(Given.withSizes(5), 0);
        DUE.order(Given.withSizes(5, 4), 1, 0);
        // By the first one alone 0 would be first.
        JoinOrder x = new JoinOrder();
        Given.tellSubjects(x, 1, 0, 10);
        x.pattern(-1, 0, -2);
        x.pattern(-3, 1, 0);
        x.pattern(-3, 1, -2);
        x.cost(0, 30);
        x.cost(1, 31);
        x.cost(2, 32);
        // {0, 2}: 960, {1, 2}: 992 / 10 = 100 rounded up.
        DUE.order(x, 1, 2, 0);
        DUE.estimates(x, 31, 100, 2976);
        // The sums are far above what an int holds.
        x = Given.withSizes(100, 100, 100, 100, 100, 100, 100, 99);
        DUE.order(x, 7, 0, 1, 2, 3, 4, 5, 6);
        DUE.order(Given.withSizes(93, 94, 95, 96, 97, 98, 99, 100), 0, 1, 2, 3, 4, 5, 6, 7);
        DUE.order(Given.withSizes(100, 99, 98, 97, 96, 95, 94, 93), 7, 6, 5, 4, 3, 2, 1, 0);
        DUE.order(Given.withSizes(1, 1, 1, 1, 1, 1, 1, 0), 7, 0, 1, 2, 3, 4, 5, 6);
    }

    private static void goodByHints() {
        DUE.sentence("Terms", "An order is GOOD if each PATTERN comes behind those that HINTS tell");
        JoinOrder x = Given.withSizes(1, 100);
        DUE.order(x, 0, 1);
        x.hint(1, 0);
        DUE.order(x, 1, 0);
        x = Given.withSizes(1, 2, 3, 4, 5, 6, 7, 8);
        for (int i = 0; i < 7; i++) {
            x.hint(7, i);
        }
        DUE.order(x, 7, 0, 1, 2, 3, 4, 5, 6);
        x = Given.withSizes(1, 2, 3, 4, 5, 6, 7, 8);
        for (int i = 1; i < 8; i++) {
            x.hint(i, 0);
        }
        DUE.order(x, 1, 2, 3, 4, 5, 6, 7, 0);
        x = Given.withSizes(1, 2, 3, 4, 5, 6, 7, 8);
        for (int i = 1; i < 8; i++) {
            x.hint(i, i - 1);
        }
        DUE.order(x, 7, 6, 5, 4, 3, 2, 1, 0);
    }

    private static void goodByVariables() {
        DUE.sentence("Terms", "and has a VARIABLE in common with those before it, unless it is the first, or none of those"
                + " that could come (by HINTS) has");
        JoinOrder x = new JoinOrder();
        x.pattern(-8, 0, 0);
        x.pattern(-7, 0, 0);
        x.pattern(0, 0, -8);
        x.cost(0, 1);
        x.cost(1, 10);
        x.cost(2, 15);
        // 1 + 15 + 150; beginning with 1 it is 10 + 10 + 150; 0, 1, 2, which is not GOOD, would be 1 + 10 + 150.
        DUE.order(x, 0, 2, 1);
        DUE.steps(x, 1, 0, 2, 1);
        x.hint(1, 2);
        DUE.order(x, 0, 1, 2);
        DUE.steps(x, 1, 0, 1, 2);
        // 3 could come now, and has one: 1 + 12 + 120 + 1800; 0, 1, 3, 2, not GOOD, would be 1 + 10 + 120 + 1800.
        x.pattern(0, -8, 0);
        x.cost(3, 12);
        DUE.order(x, 0, 3, 1, 2);
        DUE.steps(x, 1, 0, 2, 1, 3);
        // At each place of a PATTERN the VARIABLE is one in common.
        for (int a = 0; a < 3; a++) {
            for (int b = 0; b < 3; b++) {
                x = new JoinOrder();
                Given.pattern(x, Given.placed(a, -4, 1));
                x.pattern(-5, 1, 1);
                Given.pattern(x, Given.placed(b, -4, 2));
                x.cost(0, 1);
                x.cost(1, 10);
                x.cost(2, 15);
                DUE.order(x, 0, 2, 1);
            }
        }
    }

    private static void leastNumber() {
        DUE.sentence("Terms", "of several the one with the least number where they first differ");
        DUE.order(Given.withSizes(7, 7, 7, 7, 7, 7, 7, 7), 0, 1, 2, 3, 4, 5, 6, 7);
        DUE.order(Given.withSizes(0, 0, 0, 0, 0, 0, 0, 0), 0, 1, 2, 3, 4, 5, 6, 7);
        DUE.order(Given.withSizes(9, 9, 9, 9, 8, 9, 9, 9), 4, 0, 1, 2, 3, 5, 6, 7);
        DUE.order(Given.withSizes(9, 8, 9, 8), 1, 3, 0, 2);
        // With SIZE 0 somewhere each order that begins with it costs nothing: 3 first, then by numbers.
        DUE.order(Given.withSizes(9, 8, 7, 0, 5), 3, 0, 1, 2, 4);
        JoinOrder x = Given.withSizes(7, 7, 7);
        x.hint(2, 0);
        DUE.order(x, 1, 2, 0);
        x = Given.withSizes(7, 7, 7);
        x.hint(1, 0);
        DUE.order(x, 1, 0, 2);
    }

    private static void orderOfOptional() {
        DUE.sentence("Terms", "Behind them come the OPTIONAL ones, by their numbers, but each as soon as the one that it is"
                + " OF has come (of those that can come always the least number)");
        JoinOrder x = Given.withPatterns(8);
        for (int i = 0; i < 7; i++) {
            x.optional(i, 7);
        }
        DUE.order(x, 7, 0, 1, 2, 3, 4, 5, 6);
        x = Given.withPatterns(8);
        for (int i = 7; i > 0; i--) {
            x.optional(i, 0);
        }
        DUE.order(x, 0, 1, 2, 3, 4, 5, 6, 7);
        x = Given.withPatterns(8);
        for (int i = 0; i < 7; i++) {
            x.optional(i, i + 1);
        }
        DUE.order(x, 7, 6, 5, 4, 3, 2, 1, 0);
        x = Given.withPatterns(6);
        x.optional(0, 4);
        x.optional(4, 5);
        x.optional(1, 2);
        x.optional(2, 5);
        DUE.order(x, 3, 5, 2, 1, 4, 0);
        x = Given.withPatterns(2);
        x.optional(0, 1);
        x.cost(0, 0);
        x.cost(1, 100);
        DUE.order(x, 1, 0);
    }

    private static void filtersThatAreSafe() {
        DUE.sentence("Terms", "A FILTER that is SAFE, and whose VARIABLE a REQUIRED PATTERN has, acts behind the first step"
                + " by which it is bound");
        JoinOrder x = new JoinOrder();
        for (int i = 0; i < 8; i++) {
            x.pattern(-1 - i, i, -1 - Math.min(i + 1, 7));
            x.cost(i, 1 + i);
            x.filter(-1 - i, 1, 0, true);
        }
        DUE.order(x, 0, 1, 2, 3, 4, 5, 6, 7);
        for (int i = 0; i < 8; i++) {
            DUE.answer(Due.said("move", i), x.move(i), Math.max(0, i - 1));
        }
        DUE.steps(x, 2, 2, 1, 1, 1, 1, 1, 1, 0, -1);
        x = new JoinOrder();
        x.pattern(1, 1, 1);
        x.pattern(-1, 1, 1);
        x.hint(0, 1);
        x.filter(-1, 1, 0, true);
        x.plan();
        DUE.answer("move(0) of one that the last step binds", x.move(0), 1);
    }

    private static void filtersThatAreOthers() {
        DUE.sentence("Terms", "others behind the last step");
        JoinOrder x = new JoinOrder();
        x.pattern(-1, 0, -2);
        x.pattern(-1, 1, -3);
        x.pattern(-3, 2, -4);
        x.optional(1, 0);
        x.optional(2, 1);
        x.filter(-1, 1, 0, false);
        x.filter(-3, 1, 0, true);
        x.filter(-4, 1, 0, true);
        x.filter(-5, 1, 0, true);
        x.filter(-5, 1, 0, false);
        x.filter(-1, 1, 0, true);
        DUE.order(x, 0, 1, 2);
        for (int i = 0; i < 5; i++) {
            DUE.answer(Due.said("move", i), x.move(i), 2);
        }
        DUE.answer(Due.said("move", 5), x.move(5), 0);
        DUE.steps(x, 2, 1, 0, 5, -1);
        x = Given.withPatterns(1);
        x.filter(-1, 1, 0, false);
        x.filter(-8, 1, 0, true);
        x.plan();
        DUE.answer("move(0), the first step is the last", x.move(0), 0);
        DUE.answer("move(1), the first step is the last", x.move(1), 0);
    }

    private static void rowsAtFirst() {
        DUE.sentence("Terms", "ROWS: at first one that binds nothing");
        JoinOrder x = new JoinOrder();
        DUE.answer("run()", x.run(), 1);
        DUE.row(x, 0, -1, -1, -1, -1, -1, -1, -1, -1);
        DUE.rows(x, 1);
        x = Given.withTriples(0, 0, 0);
        x.pattern(0, 0, 0);
        DUE.answer("run() of a PATTERN without VARIABLES", x.run(), 1);
        DUE.row(x, 0, -1, -1, -1, -1, -1, -1, -1, -1);
        x = Given.withTriples(31, 0, 31);
        x.pattern(-8, 0, -1);
        x.run();
        DUE.answer("run() anew begins with one that binds nothing", x.run(), 1);
        DUE.row(x, 0, 31, -1, -1, -1, -1, -1, -1, 31);
    }

    private static void rowsInOrder() {
        DUE.sentence("Terms", "A step makes of each ROW, in their order, one for each TRIPLE, in their order, that its"
                + " PATTERN MATCHES with what the ROW binds already, which binds its VARIABLES, too");
        JoinOrder x = Given.withTriples(9, 0, 1, 3, 0, 2, 5, 0, 3, 7, 0, 1, 2, 1, 8, 1, 1, 6, 2, 1, 4, 1, 1, 0, 4, 1, 31);
        x.pattern(-1, 0, -2);
        x.pattern(-2, 1, -3);
        x.hint(0, 1);
        DUE.answer("run()", x.run(), 6);
        DUE.row(x, 0, 9, 1, 6);
        DUE.row(x, 1, 9, 1, 0);
        DUE.row(x, 2, 3, 2, 8);
        DUE.row(x, 3, 3, 2, 4);
        DUE.row(x, 4, 7, 1, 6);
        DUE.row(x, 5, 7, 1, 0);
        DUE.rows(x, 6);
        x.pattern(-1, -3, -2);
        x.hint(1, 2);
        x.triple(7, 6, 1);
        x.triple(7, 6, 2);
        DUE.answer("run() with all three bound", x.run(), 3);
        DUE.row(x, 0, 9, 1, 0);
        DUE.row(x, 1, 7, 1, 6);
        DUE.row(x, 2, 7, 1, 0);
    }

    private static void optionalFindsNone() {
        DUE.sentence("Terms", "An OPTIONAL one that finds none leaves the ROW as it is");
        JoinOrder x = Given.withTriples(0, 0, 0, 31, 0, 31, 5, 0, 5, 31, 1, 0);
        x.pattern(-1, 0, -2);
        x.pattern(-1, 1, -8);
        x.optional(1, 0);
        DUE.answer("run()", x.run(), 3);
        DUE.row(x, 0, 0, 0, -1, -1, -1, -1, -1, -1);
        DUE.row(x, 1, 31, 31, -1, -1, -1, -1, -1, 0);
        DUE.row(x, 2, 5, 5, -1, -1, -1, -1, -1, -1);
        x = Given.withTriples(0, 0, 0);
        x.pattern(-1, 1, -2);
        x.pattern(-1, 0, -2);
        x.optional(1, 0);
        DUE.answer("run() with no ROW to leave", x.run(), 0);
        x = Given.withTriples(4, 0, 4);
        x.pattern(-1, 0, -2);
        x.pattern(9, 9, 9);
        x.optional(1, 0);
        DUE.answer("run() with one without VARIABLES that finds none", x.run(), 1);
        x.triple(9, 9, 9);
        DUE.answer("run() with one without VARIABLES that finds one", x.run(), 1);
    }

    private static void optionalIsLeft() {
        DUE.sentence("Terms", "so it does if the one that it is OF is OPTIONAL and found none for that ROW, or was left so");
        // A chain of seven over one: the ROW of subject 1 finds all, that of 2 misses at the first, of 3 at the third.
        JoinOrder x = Given.withTriples(1, 0, 1, 2, 0, 2, 3, 0, 3, 1, 1, 10, 3, 1, 10, 3, 2, 11, 1, 2, 11, 1, 3, 12, 0, 4, 0);
        x.pattern(-1, 0, -1);
        x.pattern(-1, 1, -2);
        x.pattern(-1, 2, -3);
        x.pattern(-1, 3, -4);
        for (int i = 5; i < 9; i++) {
            x.pattern(-i, 4, 0);
        }
        for (int i = 1; i < 8; i++) {
            x.optional(i, i - 1);
        }
        DUE.answer("run()", x.run(), 3);
        DUE.row(x, 0, 1, 10, 11, 12, 0, 0, 0, 0);
        DUE.row(x, 1, 2, -1, -1, -1, -1, -1, -1, -1);
        DUE.row(x, 2, 3, 10, 11, -1, -1, -1, -1, -1);
        // The same from the greatest number down: 0 is OF 1, 1 OF 2, and so on; 7 is REQUIRED.
        x = Given.withTriples(1, 0, 1, 2, 0, 2, 3, 0, 3, 1, 1, 10, 3, 1, 10, 3, 2, 11, 1, 2, 11, 1, 3, 12, 0, 4, 0);
        for (int i = 8; i > 4; i--) {
            x.pattern(-i, 4, 0);
        }
        x.pattern(-1, 3, -4);
        x.pattern(-1, 2, -3);
        x.pattern(-1, 1, -2);
        x.pattern(-1, 0, -1);
        for (int i = 0; i < 7; i++) {
            x.optional(i, i + 1);
        }
        DUE.answer("run()", x.run(), 3);
        DUE.row(x, 0, 1, 10, 11, 12, 0, 0, 0, 0);
        DUE.row(x, 1, 2, -1, -1, -1, -1, -1, -1, -1);
        DUE.row(x, 2, 3, 10, 11, -1, -1, -1, -1, -1);
        // Each number in turn is the OPTIONAL one that finds none; what is OF it would find one.
        for (int none = 0; none < 8; none++) {
            x = Given.withTriples(1, 0, 1);
            for (int i = 0; i < 8; i++) {
                x.pattern(i == none ? 9 : -1 - i, 0, 1);
            }
            int required = (none + 1) % 8;
            x.optional(none, required);
            for (int i = 2; i < 8; i++) {
                x.optional((none + i) % 8, none);
            }
            DUE.answer("run(), " + none + " finds none", x.run(), 1);
            for (int i = 0; i < 8; i++) {
                DUE.answer(Due.said("row", 0, -1 - i), x.row(0, -1 - i), i == required ? 1 : -1);
            }
        }
        x = Given.withTriples(1, 0, 1, 0, 4, 0);
        x.pattern(-1, 0, -1);
        x.pattern(-2, 5, 5);
        x.pattern(-3, 4, 0);
        x.optional(1, 0);
        x.optional(2, 0);
        DUE.answer("run(), OF one that is REQUIRED", x.run(), 1);
        DUE.row(x, 0, 1, -1, 0);
        DUE.answer("plain()", x.plain(), 1);
        DUE.answer("keeps()", x.keeps(), true);
    }

    private static void filtersBehindAStep() {
        DUE.sentence("Terms", "Behind a step FILTERS that act there leave the ROWS of which all of them hold");
        JoinOrder x = new JoinOrder();
        Given.tellSubjects(x, 0, 0, 32);
        x.pattern(-1, 0, 0);
        for (int i = 0; i < 7; i++) {
            x.filter(-1, 3, i, i % 2 == 0);
        }
        DUE.answer("run() with seven", x.run(), 25);
        DUE.row(x, 0, 7);
        x.filter(-1, 2, 8, false);
        DUE.answer("run() with eight", x.run(), 1);
        DUE.row(x, 0, 7);
        DUE.rows(x, 1);
        x = new JoinOrder();
        Given.tellSubjects(x, 0, 0, 32);
        x.pattern(-1, 0, 0);
        x.filter(-1, 2, 5, true);
        x.filter(-1, 3, 4, true);
        DUE.answer("run() with two that never hold both", x.run(), 0);
        DUE.rows(x, 0);
    }

    private static void noPatterns() {
        DUE.sentence("Terms", "(With no PATTERNS it is that one ROW, if no FILTER is there.)");
        JoinOrder x = Given.withTriples(1, 2, 3);
        DUE.answer("run()", x.run(), 1);
        DUE.answer("plain()", x.plain(), 1);
        DUE.answer("keeps()", x.keeps(), true);
        DUE.rows(x, 1);
        for (int kind = 0; kind < 4; kind++) {
            for (int safe = 0; safe < 2; safe++) {
                x = Given.withTriples(1, 2, 3);
                x.run();
                x.filter(-1, kind, 5, safe == 1);
                DUE.answer("keeps() with a FILTER", x.keeps(), false);
                DUE.answer("run() with a FILTER", x.run(), 0);
                DUE.answer("plain() with a FILTER", x.plain(), 0);
                DUE.answer("keeps() with a FILTER", x.keeps(), true);
                DUE.rows(x, 0);
            }
        }
    }

    private static void firstRefusalThatFits() {
        DUE.sentence("Terms", "REFUSALS change nothing and answer, the first that fits");
        JoinOrder x = new JoinOrder();
        x.filter(-1, 0, 0, true);
        x.plan();
        DUE.answer("move: no such FILTER, and no steps", x.move(1), -1);
        DUE.answer("row: no such ROW, and no VARIABLE", x.row(0, 0), -1);
        DUE.answer("step: no such step, and no such what", x.step(0, 3), -1);
        DUE.answer("cost: no such PATTERN, and outside", x.cost(0, 101), -1);
        DUE.answer("optional: no such PATTERN, and itself", x.optional(0, 0), -1);
        DUE.answer("hint: no such PATTERN, and both are one", x.hint(0, 0), -1);
        for (int i = 0; i < 8; i++) {
            x.pattern(-1, i, -2);
        }
        x.optional(7, 6);
        x.hint(0, 1);
        DUE.answer("optional: is it already, and no such other", x.optional(7, 8), -1);
        DUE.answer("optional: a HINT tells of it, and no such other", x.optional(0, -1), -1);
        DUE.answer("optional: no such PATTERN, OF an OPTIONAL one", x.optional(8, 7), -1);
        DUE.answer("hint: is OPTIONAL, and no such other", x.hint(7, 8), -1);
        DUE.answer("hint: no such PATTERN, and the other is OPTIONAL", x.hint(-1, 7), -1);
        DUE.answer("pattern: outside, and no room", x.pattern(0, 0, -9), -2);
        for (int i = 1; i < 8; i++) {
            x.filter(-1, 1, 0, true);
        }
        DUE.answer("filter: no VARIABLE, and no room", x.filter(0, 0, 0, true), -2);
        DUE.answer("filter: no kind, and no room", x.filter(-1, 4, 0, true), -2);
        DUE.answer("filter: no TERM, and no room", x.filter(-1, 0, 32, true), -2);
        for (int i = 0; i < 80; i++) {
            x.triple(i % 32, i / 32, 0);
        }
        DUE.answer("triple: outside, and no room", x.triple(32, 0, 0), -2);
        DUE.answer("triple: outside, and no room", x.triple(0, -1, 0), -2);
        DUE.answer("triple: outside, and no room", x.triple(0, 0, 32), -2);
    }

    private TermsTests() {
    }
}
