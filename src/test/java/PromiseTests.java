/** Each promise of the document with ordinary inputs, the edges that it names, and wrong inputs. */
public final class PromiseTests {
    private static int wrong;
    private static int right;

    public static void main(String[] args) {
        newObject();
        triples();
        patterns();
        patternsMatch();
        optionalOnes();
        optionalRefusals();
        filters();
        filterKinds();
        costs();
        hints();
        hintsThroughOthers();
        planOfLeastCost();
        planOfEqualCost();
        planWithCrossProducts();
        planWithHints();
        planOfOptionalOnes();
        steps();
        stepsStayAsMade();
        estimates();
        greatEstimates();
        moves();
        runs();
        runsOutOfRoom();
        runsThatMiss();
        rows();
        plainOnes();
        keeps();
        keepsOfNoRun();
        keepsInAnyOrder();
        allFull();
        System.out.println("PromiseTests: " + right + " answers as due, " + wrong + " not");
        if (wrong != 0) {
            System.exit(1);
        }
    }

    private static void due(String what, long got, long want) {
        if (got == want) {
            right++;
        } else {
            wrong++;
            System.out.println(what + " answered " + got + ", due is " + want);
        }
    }

    private static void due(String what, boolean got, boolean want) {
        due(what, got ? 1 : 0, want ? 1 : 0);
    }

    private static void dueOrder(String what, JoinOrder x, int... order) {
        due(what + ": steps", x.plan(), order.length);
        for (int i = 0; i < order.length; i++) {
            due(what + ": step(" + i + ", 0)", x.step(i, 0), order[i]);
        }
    }

    private static void dueJoins(String what, JoinOrder x, int... joins) {
        for (int i = 0; i < joins.length; i++) {
            due(what + ": step(" + i + ", 1)", x.step(i, 1), joins[i]);
        }
    }

    private static void dueEstimates(String what, JoinOrder x, long... estimates) {
        for (int i = 0; i < estimates.length; i++) {
            due(what + ": estimate(" + i + ")", x.estimate(i), estimates[i]);
        }
    }

    /** The terms that row i binds to the variables -1, -2, and so on. */
    private static void dueRow(String what, JoinOrder x, int i, int... terms) {
        for (int v = 0; v < terms.length; v++) {
            due(what + ": row(" + i + ", " + (-1 - v) + ")", x.row(i, -1 - v), terms[v]);
        }
    }

    private static JoinOrder withTriples(int... parts) {
        JoinOrder x = new JoinOrder();
        for (int i = 0; i < parts.length; i += 3) {
            x.triple(parts[i], parts[i + 1], parts[i + 2]);
        }
        return x;
    }

    private static void newObject() {
        JoinOrder x = new JoinOrder();
        due("1: step of no plan", x.step(0, 0), -1);
        due("1: step of no plan, no what", x.step(0, 9), -1);
        due("1: estimate of no plan", x.estimate(0), -1);
        due("1: move of no plan", x.move(0), -1);
        due("1: row of no run", x.row(0, -1), -1);
        due("1: row of no run, no variable", x.row(0, 0), -1);
        due("1: keeps of no run", x.keeps(), false);
        due("1: no pattern 0", x.cost(0, 1), -1);
        due("1: plan", x.plan(), 0);
        due("1: plan makes no rows", x.row(0, 0), -1);
        due("1: run", x.run(), 1);
        due("1: plain", x.plain(), 1);
        due("1: keeps", x.keeps(), true);
        due("1: the one row binds nothing", x.row(0, -8), -1);
        due("1: the one row is there", x.row(0, 0), -2);
        due("1: one row only", x.row(1, 0), -1);
        due("1: first triple", x.triple(0, 0, 0), 1);
        due("1: first pattern", x.pattern(0, 0, 0), 0);
        due("1: first filter", x.filter(-1, 0, 0, true), 0);
        due("1: another object is empty", new JoinOrder().triple(5, 5, 5), 1);
    }

    private static void triples() {
        JoinOrder x = new JoinOrder();
        int[][] outside = {{-1, 0, 0}, {0, -1, 0}, {0, 0, -1}, {32, 0, 0}, {0, 32, 0}, {0, 0, 32},
            {Integer.MIN_VALUE, 0, 0}, {0, Integer.MAX_VALUE, 0}};
        for (int[] t : outside) {
            due("2: outside", x.triple(t[0], t[1], t[2]), -2);
        }
        due("2: one", x.triple(0, 31, 0), 1);
        due("2: it again", x.triple(0, 31, 0), 1);
        due("2: turned round", x.triple(31, 0, 0), 2);
        due("2: turned on", x.triple(0, 0, 31), 3);
        for (int i = 4; i <= 80; i++) {
            due("2: number " + i, x.triple(i % 32, 1 + i / 32, 5), i);
        }
        due("2: no room", x.triple(31, 31, 31), -4);
        due("2: outside comes before no room", x.triple(31, 31, 32), -2);
        due("2: one that is there needs no room", x.triple(0, 0, 31), 80);
        x.pattern(31, 31, 31);
        due("2: the refused one is not there", x.run(), 0);
    }

    private static void patterns() {
        JoinOrder x = new JoinOrder();
        int[][] outside = {{-9, 0, 0}, {0, -9, 0}, {0, 0, -9}, {32, 0, 0}, {0, 32, 0}, {0, 0, 32},
            {Integer.MIN_VALUE, 0, 0}, {0, 0, Integer.MAX_VALUE}};
        for (int[] t : outside) {
            due("3: outside", x.pattern(t[0], t[1], t[2]), -2);
        }
        due("3: all variables", x.pattern(-1, -8, -5), 0);
        due("3: all terms", x.pattern(0, 31, 7), 1);
        for (int i = 2; i < 8; i++) {
            due("3: the same is another one", x.pattern(0, 31, 7), i);
        }
        due("3: no room", x.pattern(0, 31, 7), -4);
        due("3: outside comes before no room", x.pattern(0, 31, 32), -2);
        due("3: as many steps", x.plan(), 8);
        due("3: it is required", x.step(7, 1), 1);
    }

    private static void patternsMatch() {
        JoinOrder x = withTriples(1, 1, 1, 1, 2, 1, 2, 2, 1, 3, 2, 2);
        due("3: pattern", x.pattern(-1, -2, -1), 0);
        due("3: one term for a variable", x.run(), 2);
        dueRow("3: s is o", x, 0, 1, 1);
        dueRow("3: s is o", x, 1, 1, 2);
        x = withTriples(1, 1, 1, 1, 2, 1, 2, 2, 1, 3, 2, 2);
        x.pattern(-1, -1, -2);
        due("3: s is p", x.run(), 2);
        dueRow("3: s is p", x, 1, 2, 1);
        x = withTriples(1, 1, 1, 1, 2, 1, 2, 2, 1, 3, 2, 2);
        x.pattern(-2, -1, -1);
        due("3: p is o", x.run(), 2);
        dueRow("3: p is o", x, 1, 2, 3);
        x = withTriples(1, 1, 1, 1, 2, 1, 2, 2, 1, 3, 2, 2);
        x.pattern(-8, -8, -8);
        due("3: all one", x.run(), 1);
        x = withTriples(1, 1, 1, 1, 2, 1, 2, 2, 1, 3, 2, 2);
        x.pattern(-3, 2, 1);
        due("3: terms", x.run(), 2);
        dueRow("3: terms", x, 0, -1, -1, 1);
        dueRow("3: terms", x, 1, -1, -1, 2);
        due("3: a triple that comes later", x.triple(9, 2, 1), 5);
        due("3: is matched, too", x.run(), 3);
    }

    private static void optionalOnes() {
        JoinOrder x = withTriples(1, 0, 2, 3, 0, 4, 2, 1, 5);
        x.pattern(-1, 0, -2);
        x.pattern(-2, 1, -3);
        due("4: required both", x.run(), 1);
        due("4: optional", x.optional(1, 0), 1);
        due("4: may find nothing", x.run(), 2);
        dueRow("4: found", x, 0, 1, 2, 5);
        dueRow("4: found none", x, 1, 3, 4, -1);
        due("4: joined so", x.step(1, 1), 4);
    }

    private static void optionalRefusals() {
        JoinOrder x = new JoinOrder();
        for (int i = 0; i < 6; i++) {
            x.pattern(-1, i, -2);
        }
        due("4: unknown", x.optional(6, 0), -1);
        due("4: unknown", x.optional(-1, 0), -1);
        due("4: unknown other", x.optional(0, 6), -1);
        due("4: unknown other", x.optional(0, -1), -1);
        due("4: unknown, both one", x.optional(6, 6), -1);
        due("4: far away", x.optional(Integer.MAX_VALUE, Integer.MIN_VALUE), -1);
        due("4: itself", x.optional(0, 0), -3);
        due("4: of a required one", x.optional(1, 0), 1);
        due("4: already, of the same", x.optional(1, 0), -3);
        due("4: already, of another", x.optional(1, 2), -3);
        due("4: already, and the other is unknown", x.optional(1, 9), -1);
        due("4: the other is of it", x.optional(0, 1), -3);
        due("4: of an optional one", x.optional(2, 1), 1);
        due("4: the other is of it through another", x.optional(0, 2), -3);
        due("4: hint", x.hint(3, 4), 1);
        due("4: a hint tells of it first", x.optional(3, 0), -3);
        due("4: a hint tells of it behind", x.optional(4, 0), -3);
        due("4: of one that a hint tells of", x.optional(5, 3), 1);
        due("4: one that others are of", x.optional(0, 4), 1);
        due("4: now through three", x.optional(4, 2), -3);
        dueOrder("4: refused ones changed nothing", x, 3, 4, 0, 1, 2, 5);
    }

    private static void filters() {
        JoinOrder x = new JoinOrder();
        due("5: no variable", x.filter(0, 0, 0, true), -2);
        due("5: no variable", x.filter(-9, 0, 0, true), -2);
        due("5: no variable", x.filter(Integer.MAX_VALUE, 0, 0, true), -2);
        due("5: no kind", x.filter(-1, -1, 0, true), -2);
        due("5: no kind", x.filter(-1, 4, 0, true), -2);
        due("5: no term", x.filter(-1, 0, -1, true), -2);
        due("5: no term", x.filter(-1, 0, 32, true), -2);
        for (int i = 0; i < 8; i++) {
            due("5: number", x.filter(-1 - i, i % 4, 31, i % 2 == 0), i);
        }
        due("5: no room", x.filter(-1, 0, 0, true), -4);
        due("5: outside comes before no room", x.filter(-1, 0, 32, true), -2);
        x.plan();
        due("5: eight of them", x.move(7), -3);
        due("5: and no ninth", x.move(8), -1);
    }

    private static int rowsThrough(int kind, int value) {
        JoinOrder x = withTriples(0, 0, 0, 1, 0, 0, 2, 0, 0, 3, 0, 0, 31, 0, 0);
        x.pattern(-4, 0, 0);
        x.filter(-4, kind, value, true);
        return x.run();
    }

    private static void filterKinds() {
        due("5: is", rowsThrough(0, 2), 1);
        due("5: is another", rowsThrough(0, 4), 0);
        due("5: is 0", rowsThrough(0, 0), 1);
        due("5: is not", rowsThrough(1, 2), 4);
        due("5: is not another", rowsThrough(1, 4), 5);
        due("5: less", rowsThrough(2, 2), 2);
        due("5: less than 0", rowsThrough(2, 0), 0);
        due("5: greater", rowsThrough(3, 2), 2);
        due("5: greater than 31", rowsThrough(3, 31), 0);
        for (int kind = 0; kind < 4; kind++) {
            JoinOrder x = withTriples(1, 0, 1);
            x.pattern(-1, 0, -1);
            x.filter(-2, kind, 5, true);
            due("5: never of nothing", x.run(), 0);
            x = new JoinOrder();
            x.filter(-2, kind, 5, true);
            due("5: never of nothing, with no patterns", x.run(), 0);
            due("5: never of nothing, plainly", x.plain(), 0);
        }
        JoinOrder x = withTriples(0, 0, 0, 1, 0, 0, 2, 0, 0);
        x.pattern(-4, 0, 0);
        x.filter(-4, 3, 0, true);
        x.filter(-4, 2, 2, false);
        due("5: all of them must hold", x.run(), 1);
        due("5: of this one they do", x.row(0, -4), 1);
    }

    private static void costs() {
        JoinOrder x = withTriples(1, 0, 2, 3, 0, 4);
        due("6: unknown", x.cost(0, 5), -1);
        x.pattern(-1, 0, -2);
        x.pattern(-1, 0, -3);
        due("6: unknown", x.cost(2, 5), -1);
        due("6: unknown", x.cost(-1, 5), -1);
        due("6: unknown comes before outside", x.cost(2, 101), -1);
        due("6: outside", x.cost(0, 101), -2);
        due("6: outside", x.cost(0, -2), -2);
        due("6: outside", x.cost(0, Integer.MIN_VALUE), -2);
        dueOrder("6: counted", x, 0, 1);
        dueEstimates("6: counted", x, 2, 2);
        due("6: told", x.cost(0, 100), 1);
        dueOrder("6: told", x, 1, 0);
        dueEstimates("6: told", x, 2, 100);
        due("6: told 0", x.cost(0, 0), 1);
        dueOrder("6: told 0", x, 0, 1);
        dueEstimates("6: told 0", x, 0, 0);
        due("6: a told size does not change rows", x.run(), 2);
        due("6: told again", x.cost(0, 7), 1);
        dueOrder("6: told again", x, 1, 0);
        dueEstimates("6: told again", x, 2, 7);
        due("6: refused", x.cost(0, 101), -2);
        x.plan();
        dueEstimates("6: refused changes nothing", x, 2, 7);
        due("6: not any more", x.cost(0, -1), 1);
        dueOrder("6: not any more", x, 0, 1);
        dueEstimates("6: not any more", x, 2, 2);
        x.triple(5, 0, 6);
        x.plan();
        dueEstimates("6: counted anew", x, 3, 3);
        x.optional(1, 0);
        due("6: of an optional one", x.cost(1, 9), 1);
    }

    private static void hints() {
        JoinOrder x = new JoinOrder();
        for (int i = 0; i < 4; i++) {
            x.pattern(-1, i, -2);
        }
        x.optional(3, 0);
        due("7: unknown", x.hint(4, 0), -1);
        due("7: unknown", x.hint(0, 4), -1);
        due("7: unknown", x.hint(-1, 0), -1);
        due("7: unknown, both one", x.hint(8, 8), -1);
        due("7: unknown behind optional", x.hint(3, 9), -1);
        due("7: both one", x.hint(1, 1), -3);
        due("7: optional first", x.hint(3, 1), -3);
        due("7: optional behind", x.hint(1, 3), -3);
        dueOrder("7: refused ones changed nothing", x, 0, 1, 2, 3);
        due("7: hint", x.hint(2, 0), 1);
        due("7: once more", x.hint(2, 0), 1);
        due("7: the other way round", x.hint(0, 2), -3);
        dueOrder("7: kept", x, 1, 2, 0, 3);
    }

    private static void hintsThroughOthers() {
        JoinOrder y = new JoinOrder();
        for (int i = 0; i < 5; i++) {
            y.pattern(-1, i, -2);
        }
        y.hint(0, 1);
        y.hint(2, 3);
        due("4: an earlier hint tells of it", y.optional(0, 4), -3);
        due("4: an earlier hint tells of it", y.optional(1, 4), -3);
        due("4: no hint does", y.optional(4, 0), 1);
        JoinOrder x = new JoinOrder();
        for (int i = 0; i < 6; i++) {
            x.pattern(-1, i, -2);
        }
        due("7: hint", x.hint(5, 4), 1);
        due("7: hint", x.hint(3, 2), 1);
        due("7: one that links two", x.hint(4, 3), 1);
        due("7: through others", x.hint(2, 5), -3);
        due("7: through others", x.hint(2, 4), -3);
        due("7: through others", x.hint(3, 5), -3);
        due("7: the same way is fine", x.hint(5, 2), 1);
        dueOrder("7: kept", x, 0, 1, 5, 4, 3, 2);
        due("7: behind all", x.hint(2, 0), 1);
        due("7: through four", x.hint(0, 5), -3);
        dueOrder("7: kept", x, 1, 5, 4, 3, 2, 0);
    }

    private static void planOfLeastCost() {
        // Sizes 10, 4, 6, and no triples, so that every spread is 1 and an estimate is a product.
        JoinOrder x = new JoinOrder();
        x.pattern(-1, 0, -2);
        x.pattern(-2, 0, -3);
        x.pattern(-3, 0, -4);
        x.cost(0, 10);
        x.cost(1, 4);
        x.cost(2, 6);
        dueOrder("8: least cost", x, 1, 2, 0);
        dueEstimates("8: least cost", x, 4, 24, 240);
        // 0, 2, 1 would cost 1 + 2 + 100, but is not good, as 1 could come and shares a variable with 0.
        x.cost(0, 1);
        x.cost(1, 50);
        x.cost(2, 2);
        dueOrder("8: joined ones first", x, 0, 1, 2);
        dueEstimates("8: joined ones first", x, 1, 50, 100);
        // The first size alone does not tell: what the first two leave counts, too.
        x = withTriples(0, 0, 0, 1, 0, 0, 2, 0, 0, 3, 0, 0, 4, 0, 0, 0, 1, 0, 1, 1, 1, 2, 1, 2, 3, 1, 3, 4, 1, 4);
        x.pattern(-1, 5, -2);
        x.pattern(-2, 0, -3);
        x.pattern(-2, 1, -4);
        x.cost(0, 9);
        x.cost(1, 10);
        x.cost(2, 10);
        // {0}: 9, {1}: 10, {0,1}: 90 / 5, {1,2}: 100 / 5, {0,2}: 90 / 5, all: 900 / 25
        dueOrder("8: sums, not single steps", x, 0, 1, 2);
        dueEstimates("8: sums, not single steps", x, 9, 18, 36);
        x.cost(0, 11);
        // {1,2}: 20 is now less than {0,1}: 22
        dueOrder("8: another size", x, 1, 2, 0);
        dueEstimates("8: another size", x, 10, 20, 44);
    }

    private static void planOfEqualCost() {
        JoinOrder x = new JoinOrder();
        for (int i = 0; i < 8; i++) {
            x.pattern(-1, i, -2);
        }
        dueOrder("8: equal, so by numbers", x, 0, 1, 2, 3, 4, 5, 6, 7);
        x.cost(0, 1);
        x.cost(3, 1);
        dueOrder("8: no rows at once", x, 1, 0, 2, 3, 4, 5, 6, 7);
        x = new JoinOrder();
        x.pattern(-1, 0, -2);
        x.pattern(-1, 1, -2);
        x.pattern(-1, 2, -2);
        x.cost(0, 3);
        x.cost(1, 2);
        x.cost(2, 2);
        dueOrder("8: the least number where they first differ", x, 1, 2, 0);
    }

    private static void planWithCrossProducts() {
        JoinOrder x = new JoinOrder();
        x.pattern(-1, 0, -2);
        x.pattern(-3, 0, -4);
        x.pattern(-2, 1, -5);
        x.pattern(-4, 1, -6);
        x.cost(0, 2);
        x.cost(1, 3);
        x.cost(2, 50);
        x.cost(3, 60);
        dueOrder("8: cross products last", x, 0, 2, 1, 3);
        dueJoins("8: cross products last", x, 0, 2, 1, 3);
        dueEstimates("8: cross products last", x, 2, 100, 300, 18000);
        x.pattern(1, 2, 3);
        x.cost(4, 1);
        dueOrder("8: one without variables is first or crossed", x, 4, 0, 2, 1, 3);
        dueJoins("8: one without variables is first or crossed", x, 0, 1, 2, 1, 3);
        // First it would cost 50 * (1 + 2 + 100 + 300), behind 0 and 2 still 102 + 50 * 400, at last 18402.
        x.cost(4, 50);
        dueOrder("8: or waits till nothing joined is left", x, 0, 2, 1, 3, 4);
        dueJoins("8: or waits till nothing joined is left", x, 0, 2, 1, 3, 1);
    }

    private static void planWithHints() {
        // 0 and 1 share a variable, but the hint keeps 1 behind 2: so 2 may come as a cross product.
        JoinOrder x = new JoinOrder();
        x.pattern(-1, 0, -2);
        x.pattern(-2, 0, -3);
        x.pattern(-3, 0, -4);
        x.cost(0, 2);
        x.cost(1, 50);
        x.cost(2, 3);
        dueOrder("8: without a hint", x, 0, 1, 2);
        x.hint(2, 1);
        dueOrder("8: none of those that could come shares one", x, 0, 2, 1);
        dueJoins("8: none of those that could come shares one", x, 0, 1, 2);
        dueEstimates("8: none of those that could come shares one", x, 2, 6, 300);
        x.hint(2, 0);
        dueOrder("8: now 1 could come and shares one", x, 2, 1, 0);
        dueJoins("8: now 1 could come and shares one", x, 0, 2, 3);
        x.hint(0, 1);
        dueOrder("8: all by hints", x, 2, 0, 1);
        dueJoins("8: all by hints", x, 0, 1, 2);
    }

    private static void planOfOptionalOnes() {
        JoinOrder x = new JoinOrder();
        for (int i = 0; i < 7; i++) {
            x.pattern(-1, i, -2);
        }
        x.optional(1, 6);
        x.optional(0, 5);
        x.optional(5, 1);
        x.optional(4, 3);
        dueOrder("8: each as soon as the one it is of has come", x, 2, 3, 6, 1, 4, 5, 0);
        dueJoins("8: optional", x, 0, 2, 2, 4, 4, 4, 4);
        x.cost(6, 0);
        x.cost(2, 1);
        x.cost(3, 1);
        dueOrder("8: the order of required ones does not change theirs", x, 6, 2, 3, 1, 4, 5, 0);
        x = new JoinOrder();
        for (int i = 0; i < 4; i++) {
            x.pattern(-1, i, -2);
        }
        x.optional(1, 3);
        x.optional(0, 1);
        x.optional(2, 3);
        dueOrder("8: the least number that can come", x, 3, 1, 0, 2);
    }

    private static void steps() {
        JoinOrder x = new JoinOrder();
        x.pattern(-1, 0, -2);
        x.pattern(-2, 0, -3);
        x.pattern(-5, 0, -6);
        x.pattern(-5, 1, -7);
        x.optional(3, 2);
        x.cost(0, 5);
        x.cost(1, 5);
        x.cost(2, 7);
        due("9: before a plan", x.step(0, 0), -1);
        dueOrder("9", x, 0, 1, 2, 3);
        dueJoins("9: equal is at most", x, 0, 2, 1, 4);
        x.cost(1, 6);
        x.cost(0, 6);
        x.hint(1, 0);
        x.cost(0, 5);
        dueOrder("9", x, 1, 0, 2, 3);
        dueJoins("9: greater", x, 0, 3, 1, 4);
        x.filter(-2, 1, 0, true);
        x.filter(-5, 1, 0, true);
        x.filter(-6, 1, 0, true);
        x.filter(-7, 1, 0, true);
        x.filter(-1, 1, 0, false);
        due("9: not planned yet", x.step(0, 2), 0);
        x.plan();
        due("9: filters", x.step(0, 2), 1);
        due("9: filters", x.step(1, 2), 0);
        due("9: filters", x.step(2, 2), 2);
        due("9: filters", x.step(3, 2), 2);
        due("9: no such step", x.step(4, 0), -1);
        due("9: no such step", x.step(-1, 1), -1);
        due("9: no such step", x.step(Integer.MAX_VALUE, 2), -1);
        due("9: no such step comes before no such what", x.step(4, 3), -1);
        due("9: no such what", x.step(3, 3), -2);
        due("9: no such what", x.step(3, -1), -2);
        due("9: no such what", x.step(0, Integer.MIN_VALUE), -2);
    }

    private static void stepsStayAsMade() {
        JoinOrder x = withTriples(1, 0, 2, 2, 0, 3, 2, 1, 3);
        x.pattern(-1, 0, -2);
        x.pattern(-2, 1, -3);
        x.filter(-1, 3, 0, true);
        dueOrder("9: made", x, 1, 0);
        x.cost(1, 90);
        x.triple(5, 1, 5);
        x.pattern(-3, 0, -4);
        x.hint(0, 1);
        x.optional(2, 0);
        x.filter(-2, 3, 0, true);
        due("9: later calls do not change it", x.step(0, 0), 1);
        due("9: later calls do not change it", x.step(1, 0), 0);
        due("9: later calls do not change it", x.step(2, 0), -1);
        due("9: later calls do not change it", x.step(1, 2), 1);
        dueEstimates("9: later calls do not change it", x, 1, 1, -1);
        x.plain();
        x.keeps();
        due("14: plain and keeps make no plan", x.step(0, 0), 1);
        due("14: plain and keeps make no plan", x.step(2, 0), -1);
        due("11: there was no such filter then", x.move(1), -1);
        x.run();
        due("12: run makes the plan", x.step(0, 0), 0);
        due("12: run makes the plan", x.step(2, 0), 2);
        due("12: run makes the plan", x.move(1), 0);
    }

    private static void estimates() {
        // Predicate 0: 7 triples, 7 subjects, 3 objects; predicate 1: 5 triples, 2 subjects, 5 objects.
        JoinOrder x = withTriples(0, 0, 0, 1, 0, 1, 2, 0, 2, 3, 0, 0, 4, 0, 1, 5, 0, 2, 6, 0, 0,
                0, 1, 0, 0, 1, 1, 1, 1, 2, 1, 1, 3, 1, 1, 4);
        x.pattern(-1, 0, -2);
        x.pattern(-2, 1, -3);
        x.plan();
        dueEstimates("10: 35 / 3 rounded up", x, 5, 12);
        x.pattern(-4, 0, -2);
        // Spreads of -2: 3, 2, 3: the least one, 2, is left out.
        dueOrder("10: three have it", x, 1, 0, 2);
        dueEstimates("10: 245 / 9 rounded up", x, 5, 12, 28);
        x.pattern(-1, 1, -3);
        // Also -1: 7, 2, so 7; -3: 5, 5, so 5. In all 7 * 5 * 7 * 5 / (9 * 7 * 5) = 35 / 9.
        x.hint(1, 3);
        x.hint(3, 0);
        x.hint(0, 2);
        dueOrder("10: two variables", x, 1, 3, 0, 2);
        dueEstimates("10: two variables", x, 5, 5, 2, 4);
        x.optional(3, 1);
        due("10: no such step", x.estimate(4), -1);
        due("10: no such step", x.estimate(-1), -1);
        due("10: no such step", x.estimate(Integer.MIN_VALUE), -1);
        // Spreads of -1: 5, 2, 3, in every order of the numbers: 5 and 3 divide.
        int[][] orders = {{0, 1, 2}, {0, 2, 1}, {1, 0, 2}, {1, 2, 0}, {2, 0, 1}, {2, 1, 0}};
        for (int[] order : orders) {
            x = withTriples(0, 0, 0, 1, 0, 0, 2, 0, 0, 3, 0, 0, 4, 0, 0, 0, 1, 0, 1, 1, 0, 0, 2, 0, 1, 2, 0, 2, 2, 0);
            for (int predicate : order) {
                x.cost(x.pattern(-1, predicate, 0), 50);
            }
            x.plan();
            due("10: all but the least, 125000 / 15", x.estimate(2), 8334);
        }
        x = withTriples(0, 0, 0, 1, 0, 1, 2, 0, 2);
        x.pattern(-1, 0, -1);
        x.pattern(-1, 0, -2);
        x.plan();
        dueEstimates("10: twice in one pattern is once", x, 3, 3);
        x.optional(1, 0);
        x.cost(1, 50);
        x.plan();
        dueEstimates("10: the required ones alone", x, 3, 3);
        x.pattern(-1, 9, -5);
        x.cost(2, 10);
        dueOrder("10: a spread is at least 1", x, 0, 2, 1);
        dueEstimates("10: a spread is at least 1", x, 3, 10, 10);
    }

    private static void greatEstimates() {
        JoinOrder x = new JoinOrder();
        for (int i = 0; i < 8; i++) {
            x.pattern(-1 - i, 0, 0);
            x.cost(i, 100);
        }
        due("10: great", x.plan(), 8);
        dueEstimates("10: great", x, 100, 10000, 1000000, 100000000L, 10000000000L, 1000000000000L, 100000000000000L,
                10000000000000000L);
        // Spreads of 26 or more at three places of eight patterns: their product is far above a long.
        x = new JoinOrder();
        for (int i = 0; i < 80; i++) {
            x.triple(i % 32, (i * 5 + i / 32) % 32, (i * 11 + i / 32) % 32);
        }
        for (int i = 0; i < 8; i++) {
            x.pattern(-1, -2, -3);
            x.cost(i, 100);
        }
        x.plan();
        dueEstimates("10: great divisors", x, 100, 1, 1, 1, 1, 1, 1, 1);
    }

    private static void moves() {
        JoinOrder x = new JoinOrder();
        x.filter(-2, 1, 9, true);
        due("11: no plan", x.move(0), -1);
        x.plan();
        due("11: no steps", x.move(0), -3);
        due("11: no such filter comes first", x.move(1), -1);
        due("11: no such filter", x.move(-1), -1);
        x.pattern(-1, 0, -2);
        due("11: the plan made last has no steps", x.move(0), -3);
        x.pattern(-2, 0, -3);
        x.pattern(-2, 0, -4);
        x.optional(2, 0);
        x.cost(0, 9);
        x.filter(-1, 1, 9, true);
        x.filter(-2, 1, 9, false);
        x.filter(-4, 1, 9, true);
        x.filter(-8, 1, 9, true);
        due("11: not there then", x.move(1), -1);
        dueOrder("11", x, 1, 0, 2);
        due("11: behind the first that binds it", x.move(0), 0);
        due("11: behind the only one that binds it", x.move(1), 1);
        due("11: not safe", x.move(2), 2);
        due("11: an optional one has it", x.move(3), 2);
        due("11: none has it", x.move(4), 2);
        x.cost(0, 0);
        x.cost(1, 5);
        dueOrder("11: the other way", x, 0, 1, 2);
        due("11: planned anew", x.move(0), 0);
        due("11: planned anew", x.move(1), 0);
        due("9: planned anew", x.step(0, 2), 2);
        due("9: planned anew", x.step(1, 2), 0);
        due("9: planned anew", x.step(2, 2), 3);
        due("11: no such filter", x.move(5), -1);
        due("11: no such filter", x.move(Integer.MAX_VALUE), -1);
    }

    private static void runs() {
        JoinOrder x = withTriples(1, 0, 2, 1, 0, 3, 4, 0, 2, 2, 1, 9, 3, 1, 8, 2, 1, 7);
        x.pattern(-1, 0, -2);
        x.pattern(-2, 1, -3);
        x.hint(0, 1);
        due("12: rows", x.run(), 5);
        dueRow("12: in order", x, 0, 1, 2, 9);
        dueRow("12: in order", x, 1, 1, 2, 7);
        dueRow("12: in order", x, 2, 1, 3, 8);
        dueRow("12: in order", x, 3, 4, 2, 9);
        dueRow("12: in order", x, 4, 4, 2, 7);
        x = withTriples(1, 0, 2, 1, 0, 3, 4, 0, 2, 2, 1, 9, 3, 1, 8, 2, 1, 7);
        x.pattern(-1, 0, -2);
        x.pattern(-2, 1, -3);
        x.hint(1, 0);
        due("12: rows", x.run(), 5);
        dueRow("12: in the other order", x, 0, 1, 2, 9);
        dueRow("12: in the other order", x, 1, 4, 2, 9);
        dueRow("12: in the other order", x, 2, 1, 3, 8);
        dueRow("12: in the other order", x, 3, 1, 2, 7);
        dueRow("12: in the other order", x, 4, 4, 2, 7);
        x.pattern(-3, 2, -1);
        x.triple(9, 2, 4);
        x.triple(7, 2, 1);
        x.triple(8, 2, 4);
        due("12: two variables are bound already", x.run(), 2);
        dueRow("12: two variables are bound already", x, 0, 4, 2, 9);
        dueRow("12: two variables are bound already", x, 1, 1, 2, 7);
        x = withTriples(1, 0, 2, 1, 0, 3, 4, 0, 2, 2, 1, 9, 3, 1, 8, 2, 1, 7);
        x.pattern(-1, 0, -2);
        x.pattern(-2, 1, -3);
        x.pattern(4, 0, 2);
        due("12: one without variables that is there", x.run(), 5);
        x.pattern(4, 0, 4);
        due("12: one without variables that is not", x.run(), 0);
    }

    /** Rows: 22 * 22 + others, in 22 + others + 23 triples. */
    private static JoinOrder withRows(int others) {
        JoinOrder x = new JoinOrder();
        for (int i = 0; i < 22; i++) {
            x.triple(i, 0, 1);
            x.triple(1, 1, i);
        }
        for (int i = 0; i < others; i++) {
            x.triple(i, 0, 2);
        }
        x.triple(2, 1, 0);
        x.pattern(-1, 0, -2);
        x.pattern(-2, 1, -3);
        return x;
    }

    private static void runsOutOfRoom() {
        JoinOrder x = withRows(16);
        due("12: 500 rows", x.run(), 500);
        due("14: 500 rows", x.plain(), 500);
        due("15: 500 rows", x.keeps(), true);
        due("13: the last one is there", x.row(499, 0), -2);
        due("13: no other", x.row(500, 0), -1);
        x.triple(16, 0, 2);
        due("12: 501 rows", x.run(), -4);
        due("12: then there are none", x.row(0, 0), -1);
        due("12: the plan is made", x.step(1, 1), 2);
        due("14: 501 rows", x.plain(), -4);
        due("15: 501 rows", x.keeps(), false);
        x.filter(-3, 0, 31, true);
        x.hint(0, 1);
        due("12: counted before filters", x.run(), -4);
        x.filter(-1, 0, 31, true);
        due("12: a filter behind an earlier step helps", x.run(), 0);
        due("15: the plain ones have no room", x.keeps(), false);
        x = withRows(17);
        x.filter(-1, 1, 20, false);
        due("12: an unsafe filter acts too late", x.run(), -4);
        x = withRows(17);
        x.optional(1, 0);
        due("12: an optional step, too", x.run(), -4);
        x = withRows(17);
        x.pattern(31, 31, 31);
        x.cost(2, 100);
        x.hint(0, 1);
        x.hint(1, 2);
        due("12: behind a step that is not the last", x.run(), -4);
    }

    private static void runsThatMiss() {
        JoinOrder x = withTriples(1, 0, 2, 3, 0, 4, 5, 0, 6, 2, 1, 7, 4, 1, 8, 7, 2, 9, 9, 3, 9);
        x.pattern(-1, 0, -2);
        x.pattern(-2, 1, -3);
        x.pattern(-3, 2, -4);
        x.pattern(-5, 3, -5);
        x.optional(1, 0);
        x.optional(2, 1);
        x.optional(3, 2);
        due("12: misses", x.run(), 3);
        dueRow("12: all found", x, 0, 1, 2, 7, 9, 9);
        dueRow("12: 2 found none, so 3 is left", x, 1, 3, 4, 8, -1, -1);
        dueRow("12: 1 found none, so 2 and 3 are left", x, 2, 5, 6, -1, -1, -1);
        due("14: misses", x.plain(), 3);
        due("15: misses", x.keeps(), true);
        x = withTriples(1, 0, 2, 3, 0, 4, 2, 1, 2, 9, 2, 9);
        x.pattern(-1, 0, -2);
        x.pattern(-2, 1, 2);
        x.pattern(-3, 2, 9);
        x.optional(1, 0);
        x.optional(2, 1);
        due("12: one that found, but binds nothing new", x.run(), 2);
        dueRow("12: has found", x, 0, 1, 2, 9);
        dueRow("12: has not", x, 1, 3, 4, -1);
        x = withTriples(1, 0, 2, 3, 0, 4, 2, 1, 5, 6, 2, 7);
        x.pattern(-1, 0, -2);
        x.pattern(-2, 1, -3);
        x.pattern(-3, 2, -4);
        x.optional(1, 0);
        x.optional(2, 0);
        due("12: of the required one, behind one that found none", x.run(), 2);
        dueRow("12: bound, but does not match", x, 0, 1, 2, 5, -1);
        dueRow("12: not bound, so it finds", x, 1, 3, 4, 6, 7);
        x.filter(-3, 3, 5, true);
        due("12: filters of what optional ones bind act at last", x.run(), 1);
        dueRow("12: the one that is left", x, 0, 3, 4, 6, 7);
        x = withTriples(1, 0, 2);
        x.pattern(-1, 5, -2);
        x.pattern(-1, 0, -2);
        x.optional(1, 0);
        due("12: a required one that finds none leaves nothing", x.run(), 0);
    }

    private static void rows() {
        JoinOrder x = withTriples(0, 0, 31, 31, 0, 0);
        x.pattern(-1, 0, -8);
        due("13: no run", x.row(0, -1), -1);
        x.run();
        due("13: term 0", x.row(0, -1), 0);
        due("13: term 31", x.row(0, -8), 31);
        due("13: term 31", x.row(1, -1), 31);
        due("13: term 0", x.row(1, -8), 0);
        due("13: nothing", x.row(1, -7), -1);
        due("13: no variable", x.row(0, -9), -2);
        due("13: no variable", x.row(0, 0), -2);
        due("13: no variable", x.row(0, Integer.MAX_VALUE), -2);
        due("13: no variable", x.row(0, Integer.MIN_VALUE), -2);
        due("13: no row", x.row(2, -1), -1);
        due("13: no row", x.row(-1, -1), -1);
        due("13: no row comes before no variable", x.row(2, 0), -1);
        due("13: no row comes before no variable", x.row(-1, 5), -1);
        x.triple(5, 0, 5);
        x.filter(-1, 0, 9, true);
        x.pattern(9, 9, 9);
        x.plan();
        x.plain();
        x.keeps();
        due("13: rows stay till the next run", x.row(0, -8), 31);
        due("13: in their order", x.row(1, -8), 0);
        due("13: and no more of them", x.row(2, 0), -1);
        due("12: the next run", x.run(), 0);
        due("13: they are gone", x.row(0, 0), -1);
    }

    private static void plainOnes() {
        JoinOrder x = withRows(0);
        x.pattern(-4, 0, -5);
        due("14: no room on the way", x.plain(), -4);
        x.filter(-1, 0, 31, true);
        due("14: filters act at last", x.plain(), -4);
        due("14: by their numbers, whatever the hints", x.hint(2, 0), 1);
        x = withTriples(1, 0, 2, 2, 0, 3, 3, 0, 4);
        x.pattern(-1, 0, -2);
        x.pattern(-2, 0, -3);
        x.pattern(-3, 0, -4);
        due("14: rows", x.plain(), 1);
        due("14: it is no run", x.row(0, 0), -1);
        due("14: it is no plan", x.step(0, 0), -1);
        x.optional(2, 1);
        due("14: with an optional one", x.plain(), 2);
        x.filter(-4, 3, 0, true);
        due("14: with a filter", x.plain(), 1);
        x.cost(0, 0);
        due("14: sizes told do not matter", x.plain(), 1);
        // 30 by 30 rows if by the numbers, though the plan begins with the one that finds nothing.
        x = new JoinOrder();
        for (int i = 0; i < 30; i++) {
            x.triple(i, 0, 0);
        }
        x.pattern(-1, 0, 0);
        x.pattern(-2, 0, 0);
        x.pattern(0, 9, 0);
        due("14: the plan finds room", x.run(), 0);
        due("14: by their numbers there is none", x.plain(), -4);
        due("15: the plain ones have no room", x.keeps(), false);
    }

    private static void keeps() {
        JoinOrder x = withTriples(1, 0, 2, 1, 0, 3, 4, 0, 2, 2, 1, 9, 3, 1, 8, 2, 1, 7);
        x.pattern(-1, 0, -2);
        x.pattern(-2, 1, -3);
        x.hint(1, 0);
        due("15: rows", x.run(), 5);
        due("15: in any order", x.keeps(), true);
        due("15: once more", x.keeps(), true);
        dueRow("15: the run's rows stay in theirs", x, 1, 4, 2, 9);
        x.triple(3, 1, 6);
        due("15: the plain ones are those of now", x.keeps(), false);
        due("15: run", x.run(), 6);
        due("15: as many again", x.keeps(), true);
        x.filter(-3, 1, 6, true);
        due("15: less", x.keeps(), false);
        x = withTriples(1, 0, 5, 2, 1, 6);
        x.pattern(-1, 0, 5);
        x.run();
        due("15: the same", x.keeps(), true);
        x.pattern(-2, 1, 6);
        due("15: as many, but they bind more", x.plain(), 1);
        due("15: as many, but they bind more", x.keeps(), false);
        x = withTriples(1, 0, 5);
        x.pattern(-1, 0, 5);
        x.run();
        x.pattern(-2, 1, 6);
        x.optional(1, 0);
        due("15: one that found none binds nothing", x.keeps(), true);
    }

    private static void keepsOfNoRun() {
        JoinOrder x = withTriples(1, 0, 5);
        x.pattern(-1, 1, 5);
        due("15: no run, and no plain rows", x.plain(), 0);
        due("15: no run, and no plain rows", x.keeps(), false);
        x.plan();
        due("15: a plan is no run", x.keeps(), false);
        due("15: a run without rows", x.run(), 0);
        due("15: a run without rows", x.keeps(), true);
        x.triple(1, 1, 5);
        due("15: a run without rows, and a plain row", x.keeps(), false);
        x = withTriples(1, 0, 5);
        x.pattern(-1, 0, 5);
        due("15: no run, and a plain row", x.keeps(), false);
        x.run();
        due("15: a run of another object", new JoinOrder().keeps(), false);
    }

    private static void keepsInAnyOrder() {
        // The run's rows come by their objects, the plain ones by their subjects: both ways of turning them.
        for (int rows = 2; rows <= 30; rows++) {
            JoinOrder x = new JoinOrder();
            for (int i = 0; i < rows; i++) {
                x.triple(i, 0, 31 - i);
                x.triple(31 - i * 7 % rows, 1, i);
            }
            x.pattern(-1, 0, -2);
            x.pattern(-2, 1, -3);
            x.hint(1, 0);
            due("15: rows", x.run(), rows);
            due("15: in any order", x.keeps(), true);
        }
    }

    /** As much of everything as there is room for. */
    private static void allFull() {
        JoinOrder x = new JoinOrder();
        for (int i = 0; i < 80; i++) {
            x.triple(i % 16, i / 16, i % 16);
        }
        for (int i = 0; i < 8; i++) {
            x.pattern(-1 - i, i % 5, -1 - (i + 1) % 8);
        }
        for (int i = 0; i < 8; i++) {
            x.filter(-1 - i, i % 2 == 0 ? 3 : 2, i % 2 == 0 ? 5 : 9, i < 4);
        }
        due("12: full", x.run(), 3);
        for (int i = 0; i < 3; i++) {
            dueRow("12: full", x, i, 6 + i, 6 + i, 6 + i, 6 + i, 6 + i, 6 + i, 6 + i, 6 + i);
        }
        due("14: full", x.plain(), 3);
        due("15: full", x.keeps(), true);
        for (int i = 0; i < 7; i++) {
            due("7: full", x.hint(i + 1, i), 1);
        }
        due("7: full", x.hint(0, 7), -3);
        dueOrder("8: full", x, 7, 6, 5, 4, 3, 2, 1, 0);
        due("12: full, by hints", x.run(), 3);
        due("15: full, by hints", x.keeps(), true);
        x = new JoinOrder();
        for (int i = 0; i < 8; i++) {
            x.pattern(-1 - i, 0, -1);
        }
        for (int i = 0; i < 7; i++) {
            due("4: full", x.optional(i, i + 1), 1);
        }
        due("4: full", x.optional(7, 0), -3);
        dueOrder("8: full of optional ones", x, 7, 6, 5, 4, 3, 2, 1, 0);
        x.triple(5, 0, 5);
        due("12: full of optional ones", x.run(), 1);
        dueRow("12: full of optional ones", x, 0, 5, 5, 5, 5, 5, 5, 5, 5);
    }

    private PromiseTests() {
    }
}
