/**
 * The sentences of the promises that name a boundary case, in their order, each with a test of its own: the smallest and
 * the largest number that is taken, the first one outside on either side, nothing there yet, no room left.
 */
public final class BoundaryTests {
    private static final int LEAST = Integer.MIN_VALUE;
    private static final int MOST = Integer.MAX_VALUE;

    private static final Due DUE = new Due("BoundaryTests");

    public static void main(String[] args) {
        newObject();
        triple();
        pattern();
        optional();
        optionalOfOptional();
        filter();
        cost();
        costNotAnyMore();
        hint();
        hintThroughOthers();
        plan();
        stepNumbers();
        stepJoins();
        stepFilters();
        planMadeLast();
        estimate();
        move();
        moveOfThen();
        run();
        runBeforeFilters();
        runWithOptional();
        runHasNone();
        row();
        rowOfLastRun();
        plain();
        plainNoRoom();
        keeps();
        keepsInAnyOrder();
        keepsOfBindings();
        keepsNoRoom();
        DUE.end();
    }

    private static void newObject() {
        DUE.sentence("Promise 1", "No TRIPLES, PATTERNS, FILTERS");
        JoinOrder x = new JoinOrder();
        for (int i = -1; i < 9; i++) {
            for (int what = 0; what < 3; what++) {
                DUE.answer(Due.said("step", i, what), x.step(i, what), -1);
            }
            DUE.answer(Due.said("estimate", i), x.estimate(i), -1);
            DUE.answer(Due.said("move", i), x.move(i), -1);
            DUE.answer(Due.said("row", i, 0), x.row(i, 0), -1);
            DUE.answer(Due.said("cost", i, 0), x.cost(i, 0), -1);
            DUE.answer(Due.said("optional", i, 0), x.optional(i, 0), -1);
            DUE.answer(Due.said("hint", 0, i), x.hint(0, i), -1);
        }
        DUE.answer("keeps()", x.keeps(), false);
        DUE.answer("plan()", x.plan(), 0);
        DUE.answer("step(0, 0)", x.step(0, 0), -1);
        DUE.answer("estimate(0)", x.estimate(0), -1);
        DUE.answer("move(0)", x.move(0), -1);
        DUE.answer("triple()", x.triple(0, 0, 0), 1);
        DUE.answer("pattern()", x.pattern(-1, 1, -1), 0);
        DUE.answer("filter()", x.filter(-1, 0, 0, true), 0);
        JoinOrder other = new JoinOrder();
        DUE.answer("triple() of another one", other.triple(0, 0, 0), 1);
        DUE.answer("pattern() of another one", other.pattern(-1, 0, -1), 0);
        DUE.answer("run() of another one", other.run(), 1);
        DUE.answer("run() of the first one", x.run(), 0);
    }

    private static void triple() {
        DUE.sentence("Promise 2", "how many there are; one that is there stays one. -2, -4");
        JoinOrder x = new JoinOrder();
        DUE.answer("the first", x.triple(0, 0, 0), 1);
        DUE.answer("the first again", x.triple(0, 0, 0), 1);
        // Each of these differs from another one in a single place, or in the order of its places.
        int[][] others = {{0, 0, 1}, {0, 1, 0}, {1, 0, 0}, {31, 0, 0}, {0, 31, 0}, {0, 0, 31}, {1, 2, 3}, {3, 2, 1}, {2, 1, 3}};
        for (int i = 0; i < others.length; i++) {
            DUE.answer(Due.said("triple", others[i]), Given.triple(x, others[i]), i + 2);
        }
        for (int i = 0; i < others.length; i++) {
            DUE.answer(Due.said("again, triple", others[i]), Given.triple(x, others[i]), 10);
        }
        DUE.answer("outside", x.triple(0, 0, -1), -2);
        for (int i = 10; i < 80; i++) {
            DUE.answer("triple " + i, x.triple(i % 32, 7, i / 32), i + 1);
        }
        DUE.answer("no room", x.triple(31, 31, 31), -4);
        for (int i = 0; i < others.length; i++) {
            DUE.answer(Due.said("again, with no room, triple", others[i]), Given.triple(x, others[i]), 80);
        }
        DUE.answer("the last one again", x.triple(79 % 32, 7, 79 / 32), 80);
        DUE.answer("still no room", x.triple(31, 31, 31), -4);
    }

    private static void pattern() {
        DUE.sentence("Promise 3", "A REQUIRED PATTERN: its number. -2, -4");
        JoinOrder x = Given.withTriples(1, 0, 1, 2, 0, 2);
        DUE.answer("the first", x.pattern(-1, 0, -1), 0);
        DUE.answer("outside", x.pattern(-1, 32, -1), -2);
        DUE.answer("the second, the same", x.pattern(-1, 0, -1), 1);
        DUE.answer("the third, which finds none", x.pattern(-1, 1, -1), 2);
        DUE.answer("run(), all are REQUIRED", x.run(), 0);
        for (int i = 3; i < 8; i++) {
            DUE.answer("pattern " + i, x.pattern(31, 31, 31), i);
        }
        DUE.answer("no room", x.pattern(-1, 0, -1), -4);
        DUE.answer("no room for one that is there", x.pattern(31, 31, 31), -4);
        DUE.answer("outside, and no room", x.pattern(-9, 0, 0), -2);
        for (int i = 0; i < 8; i++) {
            DUE.answer("optional(" + i + ") as it is REQUIRED", Given.withPatterns(8).optional(i, (i + 1) % 8), 1);
        }
    }

    private static void optional() {
        DUE.sentence("Promise 4", "-1 there is no such one; -3 it is OPTIONAL already, a HINT tells of it, or the other one"
                + " is itself");
        JoinOrder x = Given.withPatterns(7);
        for (int unknown : new int[] {LEAST, -256, -8, -2, -1, 7, 8, 31, 32, 256, MOST}) {
            DUE.answer(Due.said("optional", unknown, 0), x.optional(unknown, 0), -1);
            DUE.answer(Due.said("optional", 0, unknown), x.optional(0, unknown), -1);
            DUE.answer(Due.said("optional", unknown, unknown), x.optional(unknown, unknown), -1);
        }
        for (int i = 0; i < 7; i++) {
            DUE.answer(Due.said("optional", i, i), x.optional(i, i), -3);
        }
        DUE.answer("the least OF the greatest", x.optional(0, 6), 1);
        DUE.answer("already, OF the same", x.optional(0, 6), -3);
        DUE.answer("already, OF another one", x.optional(0, 5), -3);
        DUE.answer("already, OF itself", x.optional(0, 0), -3);
        DUE.answer("the greatest OF another one", x.optional(6, 5), 1);
        DUE.answer("a HINT", x.hint(1, 2), 1);
        DUE.answer("the one that comes before", x.optional(1, 5), -3);
        DUE.answer("the one that comes behind", x.optional(2, 5), -3);
        DUE.answer("OF one that a HINT tells of", x.optional(3, 1), 1);
        DUE.answer("OF one that a HINT tells of", x.optional(4, 2), 1);
        DUE.answer("a refused HINT", x.hint(5, 5), -3);
        DUE.answer("a refused HINT tells of none", x.optional(5, 1), 1);
        DUE.order(x, 1, 2, 3, 4, 5, 6, 0);
        DUE.steps(x, 1, 0, 2, 4, 4, 4, 4, 4);
        x = Given.withPatterns(8);
        x.hint(0, 1);
        x.hint(6, 5);
        x.hint(2, 3);
        for (int i = 0; i < 8; i++) {
            DUE.answer(Due.said("optional", i, 7) + ", three HINTS", x.optional(i, i == 7 ? 0 : 7), i == 4 || i == 7 ? 1 : -3);
        }
    }

    private static void optionalOfOptional() {
        DUE.sentence("Promise 4", "-3 the other one is OF it (through others, too)");
        JoinOrder x = Given.withPatterns(8);
        for (int i = 1; i < 8; i++) {
            DUE.answer(Due.said("optional", i, i - 1), x.optional(i, i - 1), 1);
            for (int of = 1; of <= i; of++) {
                DUE.answer(Due.said("optional", 0, of), x.optional(0, of), -3);
            }
        }
        DUE.order(x, 0, 1, 2, 3, 4, 5, 6, 7);
        x = Given.withPatterns(8);
        x.optional(1, 0);
        x.optional(3, 2);
        x.optional(2, 1);
        DUE.answer("OF it through two", x.optional(0, 3), -3);
        DUE.answer("it is OF the other one", x.optional(4, 3), 1);
        DUE.answer("the first one OF one that stands aside", x.optional(0, 7), 1);
        DUE.answer("OF it through all", x.optional(7, 4), -3);
        DUE.order(x, 5, 6, 7, 0, 1, 2, 3, 4);
    }

    private static void filter() {
        DUE.sentence("Promise 5", "-2 the VARIABLE is none, the kind is not 0 .. 3, or the value no TERM; -4");
        JoinOrder x = new JoinOrder();
        for (int kind : new int[] {LEAST, -256, -4, -2, -1, 4, 5, 8, 256, 65536, MOST}) {
            DUE.answer("filter of kind " + kind, x.filter(-1, kind, 0, true), -2);
        }
        int[][] outside = {{0, 0, 0}, {-9, 0, 0}, {LEAST, 3, 31}, {MOST, 3, 31}, {-1, -1, 31}, {-8, 4, 31}, {-1, 0, -1},
            {-1, 0, 32}, {-8, 3, LEAST}, {-8, 3, MOST}, {0, 4, 32}};
        for (int[] f : outside) {
            DUE.answer(Due.said("filter", f), x.filter(f[0], f[1], f[2], false), -2);
        }
        for (int i = 0; i < 8; i++) {
            DUE.answer("filter " + i, x.filter(i < 4 ? -1 : -8, i % 4, i < 4 ? 0 : 31, i % 2 == 0), i);
        }
        DUE.answer("no room", x.filter(-1, 0, 0, true), -4);
        DUE.answer("no room", x.filter(-1, 0, 0, false), -4);
        for (int[] f : outside) {
            DUE.answer(Due.said("with no room, filter", f), x.filter(f[0], f[1], f[2], true), -2);
        }
        x.plan();
        DUE.answer("move(7)", x.move(7), -3);
        DUE.answer("move(8)", x.move(8), -1);
    }

    private static void cost() {
        DUE.sentence("Promise 6", "A PATTERN's SIZE is told, 0 .. 100: 1. -1, -2");
        JoinOrder x = Given.withPatterns(8);
        for (int unknown : new int[] {LEAST, -256, -8, -2, -1, 8, 9, 31, 32, 256, MOST}) {
            DUE.answer(Due.said("cost", unknown, 50), x.cost(unknown, 50), -1);
            DUE.answer(Due.said("cost", unknown, 101), x.cost(unknown, 101), -1);
            DUE.answer(Due.said("cost", unknown, -2), x.cost(unknown, -2), -1);
            DUE.answer(Due.said("cost", unknown, -1), x.cost(unknown, -1), -1);
        }
        x = Given.withPatterns(1);
        for (int size = 0; size <= 100; size++) {
            DUE.answer(Due.said("cost", 0, size), x.cost(0, size), 1);
            x.plan();
            DUE.estimates(x, size);
        }
        for (int outside : new int[] {LEAST, -65536, -256, -3, -2, 101, 102, 128, 256, 356, 65536, MOST}) {
            DUE.answer(Due.said("cost", 0, outside), x.cost(0, outside), -2);
        }
        x.plan();
        DUE.estimates(x, 100);
        x = Given.withPatterns(8);
        DUE.answer(Due.said("cost", 0, 0), x.cost(0, 0), 1);
        DUE.answer(Due.said("cost", 7, 100), x.cost(7, 100), 1);
        x.optional(7, 0);
        DUE.answer("cost of an OPTIONAL one", x.cost(7, 0), 1);
        DUE.answer("cost of an OPTIONAL one", x.cost(7, 101), -2);
    }

    private static void costNotAnyMore() {
        DUE.sentence("Promise 6", "(-1: not any more)");
        JoinOrder x = new JoinOrder();
        Given.tellSubjects(x, 0, 0, 3);
        x.pattern(-1, 0, 0);
        DUE.answer("cost(0, -1), none was told", x.cost(0, -1), 1);
        x.plan();
        DUE.estimates(x, 3);
        x.cost(0, 0);
        x.plan();
        DUE.estimates(x, 0);
        DUE.answer("cost(0, -1)", x.cost(0, -1), 1);
        x.plan();
        DUE.estimates(x, 3);
        DUE.answer("cost(0, -1) again", x.cost(0, -1), 1);
        x.triple(3, 0, 0);
        x.plan();
        DUE.estimates(x, 4);
        x.cost(0, 100);
        x.triple(4, 0, 0);
        x.plan();
        DUE.estimates(x, 100);
        DUE.answer("cost(0, -1)", x.cost(0, -1), 1);
        x.plan();
        DUE.estimates(x, 5);
    }

    private static void hint() {
        DUE.sentence("Promise 7", "-1; -3 one is OPTIONAL, both are one, or the other way round is told");
        JoinOrder x = Given.withPatterns(8);
        JoinOrder seven = Given.withPatterns(7);
        for (int unknown : new int[] {LEAST, -256, -8, -2, -1, 7, 8, 31, 32, 256, MOST}) {
            DUE.answer(Due.said("hint", unknown, 0), seven.hint(unknown, 0), -1);
            DUE.answer(Due.said("hint", 0, unknown), seven.hint(0, unknown), -1);
            DUE.answer(Due.said("hint", unknown, unknown), seven.hint(unknown, unknown), -1);
        }
        for (int i = 0; i < 8; i++) {
            DUE.answer(Due.said("hint", i, i), x.hint(i, i), -3);
        }
        x.optional(3, 0);
        for (int i = 0; i < 8; i++) {
            DUE.answer(Due.said("hint", i, 3), x.hint(i, 3), -3);
            DUE.answer(Due.said("hint", 3, i), x.hint(3, i), -3);
        }
        DUE.answer("hint(7, 0)", x.hint(7, 0), 1);
        DUE.answer("hint(0, 7), the other way round", x.hint(0, 7), -3);
        DUE.answer("hint(7, 0) again", x.hint(7, 0), 1);
        DUE.answer("hint(0, 7), still the other way round", x.hint(0, 7), -3);
        DUE.order(x, 1, 2, 4, 5, 6, 7, 0, 3);
    }

    private static void hintThroughOthers() {
        DUE.sentence("Promise 7", "-3 the other way round is told (through others, too)");
        JoinOrder x = Given.withPatterns(8);
        for (int i = 7; i > 0; i--) {
            DUE.answer(Due.said("hint", i, i - 1), x.hint(i, i - 1), 1);
        }
        for (int first = 0; first < 8; first++) {
            for (int second = 0; second < 8; second++) {
                DUE.answer(Due.said("hint", first, second), x.hint(first, second), first > second ? 1 : -3);
            }
        }
        // Two chains are joined by their ends, and by their middles.
        x = Given.withPatterns(8);
        x.hint(0, 1);
        x.hint(1, 2);
        x.hint(3, 4);
        x.hint(4, 5);
        DUE.answer("hint(2, 3)", x.hint(2, 3), 1);
        DUE.answer("hint(5, 0)", x.hint(5, 0), -3);
        DUE.answer("hint(4, 1)", x.hint(4, 1), -3);
        DUE.answer("hint(6, 4)", x.hint(6, 4), 1);
        DUE.answer("hint(5, 6)", x.hint(5, 6), -3);
        DUE.answer("hint(1, 6)", x.hint(1, 6), 1);
        DUE.answer("hint(6, 0)", x.hint(6, 0), -3);
        DUE.answer("hint(6, 2)", x.hint(6, 2), 1);
        DUE.answer("hint(3, 6)", x.hint(3, 6), -3);
        DUE.order(x, 0, 1, 6, 2, 3, 4, 5, 7);
    }

    private static void plan() {
        DUE.sentence("Promise 8", "THE PLAN is made: how many steps");
        JoinOrder x = new JoinOrder();
        DUE.answer("plan() with no PATTERNS", x.plan(), 0);
        for (int i = 1; i <= 8; i++) {
            x.pattern(-1, i, -2);
            DUE.answer("plan() with " + i, x.plan(), i);
        }
        for (int i = 1; i < 8; i++) {
            x.optional(i, 0);
            DUE.answer("plan() with OPTIONAL ones: " + i, x.plan(), 8);
        }
        x.pattern(0, 0, 0);
        DUE.answer("plan() behind a refused PATTERN", x.plan(), 8);
        DUE.answer("plan() makes no ROWS", x.row(0, 0), -1);
    }

    private static void stepNumbers() {
        DUE.sentence("Promise 9", "-1 no such step, -2 no such what");
        JoinOrder x = Given.withPatterns(8);
        for (int what = -1; what < 4; what++) {
            DUE.answer(Due.said("step", 0, what) + " before a plan", x.step(0, what), -1);
        }
        x.plan();
        for (int i : new int[] {LEAST, -256, -8, -1, 8, 9, 256, MOST}) {
            for (int what : new int[] {LEAST, -1, 0, 1, 2, 3, MOST}) {
                DUE.answer(Due.said("step", i, what), x.step(i, what), -1);
            }
        }
        for (int i = 0; i < 8; i++) {
            for (int what : new int[] {LEAST, -256, -2, -1, 3, 4, 256, MOST}) {
                DUE.answer(Due.said("step", i, what), x.step(i, what), -2);
            }
        }
        DUE.steps(x, 0, 0, 1, 2, 3, 4, 5, 6, 7);
        x = Given.withPatterns(1);
        x.plan();
        DUE.answer("step(0, 0) of one", x.step(0, 0), 0);
        DUE.answer("step(1, 0) of one", x.step(1, 0), -1);
    }

    private static void stepJoins() {
        DUE.sentence("Promise 9", "1 how it is joined: 0 the first, 1 no VARIABLE in common, 2 THE ESTIMATE before is at"
                + " most its SIZE, 3 it is greater, 4 OPTIONAL");
        int[][] due = {{0, 0, 2}, {0, 100, 2}, {99, 100, 2}, {100, 100, 2}, {100, 99, 3}, {1, 0, 3}, {100, 0, 3}};
        for (int[] d : due) {
            JoinOrder x = Given.withPatterns(2);
            x.cost(0, d[0]);
            x.cost(1, d[1]);
            x.hint(0, 1);
            DUE.order(x, 0, 1);
            DUE.steps(x, 1, 0, d[2], -1);
        }
        // THE ESTIMATE before step 2 is 10, above the SIZES of both alone.
        for (int size = 9; size <= 11; size++) {
            JoinOrder x = Given.withPatterns(3);
            x.cost(0, 2);
            x.cost(1, 5);
            x.cost(2, size);
            DUE.order(x, 0, 1, 2);
            DUE.steps(x, 1, 0, 2, size < 10 ? 3 : 2);
        }
        JoinOrder x = new JoinOrder();
        x.pattern(0, 0, 0);
        x.pattern(-1, 0, 0);
        x.pattern(-2, 0, 0);
        x.pattern(-3, 0, 0);
        x.pattern(-2, 0, 0);
        x.optional(3, 0);
        x.optional(4, 2);
        DUE.order(x, 0, 1, 2, 3, 4);
        DUE.steps(x, 1, 0, 1, 1, 4, 4, -1);
        // THE ESTIMATE before is far above an int.
        x = Given.withSizes(100, 100, 100, 100, 100, 100, 100);
        x.pattern(-1, 0, 0);
        x.cost(7, 100);
        DUE.order(x, 0, 1, 2, 3, 4, 5, 6, 7);
        DUE.steps(x, 1, 0, 1, 1, 1, 1, 1, 1, 1);
        x = Given.withPatterns(8);
        for (int i = 0; i < 8; i++) {
            x.cost(i, 100);
        }
        x.plan();
        DUE.steps(x, 1, 0, 2, 3, 3, 3, 3, 3, 3);
    }

    private static void stepFilters() {
        DUE.sentence("Promise 9", "2 how many FILTERS act behind it");
        for (int count = 0; count <= 8; count++) {
            JoinOrder x = Given.withPatterns(3);
            for (int i = 0; i < count; i++) {
                x.filter(-1 - i % 2, i % 4, i, true);
            }
            x.plan();
            DUE.steps(x, 2, count, 0, 0, -1);
            x = Given.withPatterns(3);
            for (int i = 0; i < count; i++) {
                x.filter(-1 - i % 2, i % 4, i, false);
            }
            x.plan();
            DUE.steps(x, 2, 0, 0, count, -1);
        }
        // Planned anew, the step that binds -1 first is another one.
        JoinOrder x = Given.withSizes(1, 2);
        x.pattern(-1, 0, 0);
        x.cost(2, 3);
        x.filter(-1, 1, 0, true);
        DUE.order(x, 0, 1, 2);
        DUE.steps(x, 2, 0, 0, 1, -1);
        x.cost(2, 0);
        DUE.order(x, 2, 0, 1);
        DUE.steps(x, 2, 1, 0, 0, -1);
        x.pattern(-1, 1, 0);
        x.optional(3, 2);
        x.filter(-2, 1, 0, true);
        DUE.order(x, 2, 0, 1, 3);
        DUE.steps(x, 2, 1, 0, 0, 1, -1);
        x.cost(2, 100);
        DUE.order(x, 0, 1, 2, 3);
        DUE.steps(x, 2, 0, 0, 1, 1, -1);
    }

    private static void planMadeLast() {
        DUE.sentence("Promises 9, 10, 11", "of THE PLAN made last");
        JoinOrder x = Given.withTriples(1, 0, 1);
        x.pattern(-1, 0, -2);
        x.filter(-1, 0, 1, true);
        x.plan();
        x.pattern(-1, 0, 1);
        x.cost(0, 100);
        x.triple(2, 0, 2);
        x.filter(-1, 1, 7, true);
        x.optional(1, 0);
        x.plain();
        x.keeps();
        DUE.steps(x, 0, 0, -1);
        DUE.steps(x, 1, 0, -1);
        DUE.steps(x, 2, 1, -1);
        DUE.estimates(x, 1, -1);
        DUE.answer("move(0)", x.move(0), 0);
        DUE.answer("move(1)", x.move(1), -1);
        DUE.answer("plan()", x.plan(), 2);
        DUE.steps(x, 0, 0, 1, -1);
        DUE.steps(x, 1, 0, 4, -1);
        DUE.steps(x, 2, 2, 0, -1);
        DUE.estimates(x, 100, 100, -1);
        DUE.answer("move(1)", x.move(1), 0);
        x.cost(0, 50);
        DUE.answer("run()", x.run(), 1);
        DUE.estimates(x, 50, 50, -1);
    }

    private static void estimate() {
        DUE.sentence("Promise 10", "THE ESTIMATE of the PATTERNS up to step i (REQUIRED ones). -1 no such step");
        JoinOrder x = Given.withPatterns(8);
        DUE.answer("estimate(0) before a plan", x.estimate(0), -1);
        for (int i = 0; i < 8; i++) {
            x.cost(i, 2);
        }
        x.plan();
        DUE.estimates(x, 2, 4, 8, 16, 32, 64, 128, 256, -1);
        for (int i : new int[] {LEAST, -256, -8, -1, 8, 9, 256, MOST}) {
            DUE.answer(Due.said("estimate", i), x.estimate(i), -1);
        }
        for (int i = 1; i < 8; i++) {
            x.optional(i, 0);
            x.cost(i, 100);
        }
        x.plan();
        DUE.estimates(x, 2, 2, 2, 2, 2, 2, 2, 2, -1);
        x = Given.withPatterns(3);
        x.cost(0, 3);
        x.cost(1, 5);
        x.cost(2, 0);
        x.optional(2, 1);
        x.plan();
        DUE.estimates(x, 3, 15, 15, -1);
        x = new JoinOrder();
        x.plan();
        DUE.answer("estimate(0) with no steps", x.estimate(0), -1);
    }

    private static void move() {
        DUE.sentence("Promise 11", "The step behind which a FILTER acts (-3: there are no steps)");
        JoinOrder x = new JoinOrder();
        for (int i = 0; i < 8; i++) {
            x.filter(-1 - i, 0, 0, i % 2 == 0);
        }
        x.plan();
        for (int i = 0; i < 8; i++) {
            DUE.answer(Due.said("move", i) + " with no steps", x.move(i), -3);
        }
        DUE.answer("move(8) with no steps", x.move(8), -1);
        DUE.answer("move(-1) with no steps", x.move(-1), -1);
        for (int i = 0; i < 8; i++) {
            x.pattern(-1 - i, 0, 0);
        }
        DUE.answer("move(0), no PATTERN was there then", x.move(0), -3);
        DUE.answer("plan()", x.plan(), 8);
        for (int i = 0; i < 8; i++) {
            DUE.answer(Due.said("move", i), x.move(i), i % 2 == 0 ? i : 7);
        }
        JoinOrder ran = new JoinOrder();
        ran.filter(-1, 0, 0, true);
        ran.run();
        DUE.answer("move(0) behind a run with no steps", ran.move(0), -3);
    }

    private static void moveOfThen() {
        DUE.sentence("Promise 11", "-1 there was no such FILTER then");
        JoinOrder x = Given.withPatterns(1);
        x.filter(-1, 0, 0, true);
        DUE.answer("move(0) before a plan", x.move(0), -1);
        x.plain();
        DUE.answer("move(0) behind plain()", x.move(0), -1);
        x.plan();
        DUE.answer("move(0)", x.move(0), 0);
        for (int i = 1; i < 8; i++) {
            x.filter(-1, 0, 0, true);
            DUE.answer(Due.said("move", i) + " before the next plan", x.move(i), -1);
        }
        x.run();
        for (int i = 0; i < 8; i++) {
            DUE.answer(Due.said("move", i), x.move(i), 0);
        }
        for (int i : new int[] {LEAST, -256, -8, -1, 8, 9, 256, MOST}) {
            DUE.answer(Due.said("move", i), x.move(i), -1);
        }
    }

    private static void run() {
        DUE.sentence("Promise 12", "how many. -4 there are more than 500 behind a step");
        int[][] due = {{25, 20, 0, 500}, {24, 20, 19, 499}, {24, 20, 20, 500}, {24, 20, 21, -4}, {25, 20, 1, -4},
            {20, 25, 0, 500}, {20, 25, 1, -4}, {31, 31, 0, -4}, {1, 1, 0, 1}, {0, 1, 0, 0}};
        for (int[] d : due) {
            JoinOrder x = Given.withRows(d[0], d[1], d[2]);
            DUE.answer(Due.said("run of rows", d[0], d[1], d[2]), x.run(), d[3]);
            DUE.rows(x, Math.max(0, d[3]));
        }
        JoinOrder x = Given.withRows(25, 20, 1);
        x.pattern(-1, 9, 9);
        x.hint(0, 1);
        x.hint(1, 2);
        DUE.answer("run(), 501 behind a step before the last, which finds none", x.run(), -4);
        x = Given.withRows(24, 20, 20);
        x.pattern(-1, 9, 9);
        x.hint(0, 1);
        x.hint(1, 2);
        DUE.answer("run(), 500 behind a step before the last, which finds none", x.run(), 0);
        x = new JoinOrder();
        for (int i = 0; i < 80; i++) {
            x.triple(i % 32, i / 32, 0);
        }
        x.pattern(-1, -2, 0);
        DUE.answer("run(), as many as the first step can find", x.run(), 80);
        x.pattern(-3, -4, 0);
        x.pattern(-5, -6, 0);
        DUE.answer("run(), 6400", x.run(), -4);
    }

    private static void runBeforeFilters() {
        DUE.sentence("Promise 12", "more than 500 behind a step, before FILTERS");
        JoinOrder x = Given.withRows(25, 20, 1);
        x.hint(0, 1);
        x.filter(-3, 0, 0, true);
        DUE.answer("run(), a FILTER behind the step with 501", x.run(), -4);
        x = Given.withRows(25, 20, 1);
        x.hint(0, 1);
        x.filter(-1, 1, 24, false);
        DUE.answer("run(), a FILTER that is not SAFE", x.run(), -4);
        x = Given.withRows(25, 20, 1);
        x.hint(0, 1);
        x.filter(-1, 1, 24, true);
        DUE.answer("run(), a FILTER behind the step before", x.run(), 481);
        x = Given.withRows(25, 20, 0);
        x.hint(0, 1);
        x.filter(-3, 1, 19, true);
        DUE.answer("run(), a FILTER behind the step with 500", x.run(), 475);
    }

    private static void runWithOptional() {
        DUE.sentence("Promise 12", "more than 500 behind a step (an OPTIONAL one)");
        JoinOrder x = Given.withRows(25, 20, 0);
        x.optional(1, 0);
        DUE.answer("run(), 500 that it finds", x.run(), 500);
        x.triple(0, 0, 31);
        DUE.answer("run(), and one ROW for which it finds none", x.run(), -4);
        x = Given.withRows(24, 20, 19);
        x.optional(1, 0);
        x.triple(0, 0, 31);
        DUE.answer("run(), 499, and one ROW for which it finds none", x.run(), 500);
        DUE.row(x, 499, 0, 31, -1);
        DUE.rows(x, 500);
        DUE.answer("keeps()", x.keeps(), true);
        x.triple(1, 0, 31);
        DUE.answer("run(), 499, and two ROWS for which it finds none", x.run(), -4);
        x = Given.withRows(24, 20, 20);
        x.pattern(-4, 9, -5);
        x.pattern(-4, 1, -6);
        x.optional(2, 0);
        x.optional(3, 2);
        x.hint(0, 1);
        DUE.answer("run(), 500 ROWS are left by two", x.run(), 500);
    }

    private static void runHasNone() {
        DUE.sentence("Promise 12", "-4 (then there are none)");
        JoinOrder x = Given.withRows(25, 20, 0);
        x.run();
        DUE.rows(x, 500);
        x.triple(3, 1, 0);
        x.triple(0, 0, 3);
        x.cost(0, 99);
        x.cost(1, 98);
        DUE.answer("run(), 501", x.run(), -4);
        DUE.rows(x, 0);
        DUE.answer("row(499, -1)", x.row(499, -1), -1);
        DUE.answer("keeps()", x.keeps(), false);
        DUE.answer("step(0, 0), THE PLAN is made", x.step(0, 0), 1);
        DUE.answer("estimate(0), THE PLAN is made", x.estimate(0), 98);
        x.hint(0, 1);
        x.filter(-2, 2, 3, true);
        DUE.answer("run() with room again", x.run(), 500);
        DUE.rows(x, 500);
    }

    private static void row() {
        DUE.sentence("Promise 13", "the TERM, -1 nothing. -1 no such ROW, -2 no VARIABLE");
        JoinOrder x = Given.withTriples(0, 0, 31, 31, 0, 0);
        x.pattern(-1, 0, -8);
        for (int variable = -9; variable < 2; variable++) {
            DUE.answer(Due.said("row", 0, variable) + " before a run", x.row(0, variable), -1);
        }
        x.run();
        DUE.row(x, 0, 0, -1, -1, -1, -1, -1, -1, 31);
        DUE.row(x, 1, 31, -1, -1, -1, -1, -1, -1, 0);
        for (int i : new int[] {LEAST, -256, -2, -1, 2, 3, 499, 500, 501, 512, MOST}) {
            for (int variable : new int[] {LEAST, -9, -8, -1, 0, 1, MOST}) {
                DUE.answer(Due.said("row", i, variable), x.row(i, variable), -1);
            }
        }
        for (int variable : Given.NO_VARIABLES) {
            DUE.answer(Due.said("row", 0, variable), x.row(0, variable), -2);
            DUE.answer(Due.said("row", 1, variable), x.row(1, variable), -2);
        }
        x.filter(-1, 1, 0, true);
        x.filter(-1, 1, 31, true);
        DUE.answer("run() with none", x.run(), 0);
        for (int variable = -9; variable < 2; variable++) {
            DUE.answer(Due.said("row", 0, variable), x.row(0, variable), -1);
        }
    }

    private static void rowOfLastRun() {
        DUE.sentence("Promise 13", "What ROW i of the last run binds");
        JoinOrder x = Given.withTriples(3, 0, 4, 5, 0, 6);
        x.pattern(-1, 0, -2);
        x.plan();
        DUE.rows(x, 0);
        x.plain();
        DUE.rows(x, 0);
        x.run();
        x.triple(7, 0, 8);
        x.pattern(-1, 0, -3);
        x.filter(-1, 0, 7, true);
        x.plan();
        x.plain();
        x.keeps();
        DUE.row(x, 0, 3, 4, -1);
        DUE.row(x, 1, 5, 6, -1);
        DUE.rows(x, 2);
        DUE.answer("run()", x.run(), 1);
        DUE.row(x, 0, 7, 8, 8);
        DUE.rows(x, 1);
    }

    private static void plain() {
        DUE.sentence("Promise 14", "How many ROWS there are when the steps are all REQUIRED PATTERNS by their numbers, then"
                + " OPTIONAL ones as above, and all FILTERS act at last");
        JoinOrder x = new JoinOrder();
        DUE.answer("plain() with nothing", x.plain(), 1);
        x.pattern(-1, 0, -2);
        DUE.answer("plain() with no TRIPLES", x.plain(), 0);
        x.triple(0, 0, 31);
        DUE.answer("plain() with one", x.plain(), 1);
        x.pattern(-2, 1, -3);
        DUE.answer("plain() with one that finds none", x.plain(), 0);
        x.optional(1, 0);
        DUE.answer("plain() with one that may find none", x.plain(), 1);
        x.filter(-3, 1, 0, true);
        DUE.answer("plain() with a FILTER of nothing", x.plain(), 0);
        x.triple(31, 1, 1);
        DUE.answer("plain() with what the FILTER holds of", x.plain(), 1);
        DUE.rows(x, 0);
        DUE.answer("plain() makes no plan", x.step(0, 0), -1);
        // 1 is OF 2, and so comes behind it: what 2 binds is bound then, and 1 finds two.
        x = Given.withTriples(1, 0, 1, 1, 1, 5, 1, 2, 6, 5, 3, 6, 5, 3, 7);
        x.pattern(-1, 0, -1);
        x.pattern(-2, 3, -3);
        x.pattern(-1, 1, -2);
        x.optional(2, 0);
        x.optional(1, 2);
        DUE.answer("plain(), OPTIONAL ones behind what they are OF", x.plain(), 2);
        DUE.answer("run()", x.run(), 2);
        DUE.answer("keeps()", x.keeps(), true);
        // Before 2 it would find two others, and then 2 would find none.
        x = Given.withTriples(1, 0, 1, 1, 1, 5, 6, 3, 7, 6, 3, 8);
        x.pattern(-1, 0, -1);
        x.pattern(-2, 3, -3);
        x.pattern(-1, 1, -2);
        x.optional(2, 0);
        x.optional(1, 2);
        DUE.answer("plain(), OPTIONAL ones behind what they are OF", x.plain(), 1);
        // Before 1 it would find one that 1 does not.
        x = Given.withTriples(1, 0, 1, 2, 1, 5);
        x.pattern(-1, 1, -2);
        x.pattern(-1, 0, -1);
        x.optional(0, 1);
        DUE.answer("plain(), OPTIONAL ones behind all REQUIRED ones", x.plain(), 1);
    }

    private static void plainNoRoom() {
        DUE.sentence("Promise 14", "-4 as run()");
        int[][] due = {{25, 20, 0, 500}, {24, 20, 19, 499}, {24, 20, 20, 500}, {24, 20, 21, -4}, {25, 20, 1, -4},
            {31, 31, 0, -4}, {0, 1, 0, 0}};
        for (int[] d : due) {
            DUE.answer(Due.said("plain of rows", d[0], d[1], d[2]), Given.withRows(d[0], d[1], d[2]).plain(), d[3]);
        }
        JoinOrder x = Given.withRows(25, 20, 1);
        x.filter(-1, 0, 31, true);
        DUE.answer("plain(), before FILTERS", x.plain(), -4);
        x = Given.withRows(25, 20, 0);
        x.filter(-1, 0, 31, true);
        DUE.answer("plain(), 500 before FILTERS", x.plain(), 0);
        x = Given.withRows(25, 20, 1);
        x.pattern(9, 9, 9);
        DUE.answer("plain(), behind a step before the last", x.plain(), -4);
        x.hint(2, 0);
        DUE.answer("plain(), by the numbers, not by HINTS", x.plain(), -4);
        DUE.answer("run(), by HINTS", x.run(), 0);
        x = Given.withRows(25, 20, 0);
        x.optional(1, 0);
        DUE.answer("plain(), 500 by an OPTIONAL one", x.plain(), 500);
        x.triple(0, 0, 31);
        DUE.answer("plain(), 501 by an OPTIONAL one", x.plain(), -4);
    }

    private static void keeps() {
        DUE.sentence("Promise 15", "Whether the last run's ROWS are those of plain(), in any order");
        JoinOrder x = Given.withTriples(1, 0, 5);
        x.pattern(-1, 1, 5);
        DUE.answer("keeps() before a run, plain() is 0", x.keeps(), false);
        x.plan();
        DUE.answer("keeps() behind a plan", x.keeps(), false);
        x.plain();
        DUE.answer("keeps() behind plain()", x.keeps(), false);
        x.run();
        DUE.answer("keeps() of no ROWS", x.keeps(), true);
        x.triple(0, 1, 5);
        DUE.answer("keeps(), none against one", x.keeps(), false);
        x.run();
        DUE.answer("keeps(), one against one", x.keeps(), true);
        x.triple(31, 1, 5);
        DUE.answer("keeps(), one against two", x.keeps(), false);
        x.filter(-1, 1, 0, true);
        DUE.answer("plain(), another one", x.plain(), 1);
        DUE.answer("keeps(), one against another one", x.keeps(), false);
        x.run();
        DUE.answer("keeps(), that one", x.keeps(), true);
        DUE.answer("keeps() once more", x.keeps(), true);
        // The run joins 1 before 0, so its 500 ROWS come in another order than the plain ones.
        x = Given.withRows(24, 20, 20);
        x.hint(1, 0);
        x.run();
        DUE.row(x, 1, 1, 1, 0);
        DUE.answer("keeps() of 500 in another order", x.keeps(), true);
        DUE.row(x, 1, 1, 1, 0);
        DUE.row(x, 499, 19, 2, 0);
        x.filter(-3, 2, 19, true);
        DUE.answer("keeps(), 500 against 476", x.keeps(), false);
    }

    private static void keepsInAnyOrder() {
        DUE.sentence("Promise 15", "in any order");
        int[][] orders = {{0, 1}, {1, 0}, {0, 1, 2}, {0, 2, 1}, {1, 0, 2}, {1, 2, 0}, {2, 0, 1}, {2, 1, 0}, {3, 2, 1, 0},
            {4, 3, 2, 1, 0}, {2, 4, 0, 3, 1}, {7, 6, 5, 4, 3, 2, 1, 0}, {3, 7, 0, 5, 1, 6, 2, 4}};
        for (int[] order : orders) {
            JoinOrder x = new JoinOrder();
            for (int i = 0; i < order.length; i++) {
                x.triple(i, 0, 1);
            }
            for (int term : order) {
                x.triple(term, 1, 1);
            }
            x.pattern(-1, 0, 1);
            x.pattern(-1, 1, 1);
            x.hint(1, 0);
            DUE.answer("run()", x.run(), order.length);
            DUE.row(x, 0, order[0]);
            DUE.answer(Due.said("keeps of rows", order), x.keeps(), true);
            DUE.row(x, 0, order[0]);
        }
    }

    /** A run that binds one TERM to a VARIABLE, and a plain ROW that binds another one to it. */
    private static void dueNotKept(int variable, int term, int other) {
        JoinOrder x = Given.withTriples(term, 0, 0);
        x.pattern(variable, 0, 0);
        x.run();
        DUE.answer("keeps(), the same", x.keeps(), true);
        x.triple(other, 0, 0);
        x.filter(variable, 1, term, true);
        DUE.answer("plain(), as many", x.plain(), 1);
        DUE.answer("keeps(), " + variable + " is " + term + " and " + other, x.keeps(), false);
    }

    private static void keepsOfBindings() {
        DUE.sentence("Promise 15", "the last run's ROWS are those of plain() (they bind the same)");
        for (int variable = -8; variable <= -1; variable++) {
            for (int term = 0; term < 32; term++) {
                dueNotKept(variable, term, 31 - term);
                dueNotKept(variable, term, (term + 1) % 32);
                dueNotKept(variable, term, term ^ 1);
                dueNotKept(variable, term, (term + 8) % 32);
            }
        }
        for (int term = 0; term < 32; term++) {
            JoinOrder x = Given.withTriples(3, 0, 0, term, 1, 1);
            x.pattern(-1, 0, 0);
            x.run();
            x.pattern(-8, 1, 1);
            DUE.answer("plain(), as many", x.plain(), 1);
            DUE.answer("keeps(), one that binds " + term + ", too", x.keeps(), false);
        }
        JoinOrder x = Given.withTriples(3, 0, 0);
        x.pattern(-1, 0, 0);
        x.run();
        x.pattern(-2, 1, 1);
        x.optional(1, 0);
        DUE.answer("keeps(), one that finds none binds nothing more", x.keeps(), true);
    }

    private static void keepsNoRoom() {
        DUE.sentence("Promise 15", "false if either has no room");
        JoinOrder x = Given.withRows(25, 20, 1);
        x.hint(0, 1);
        x.run();
        DUE.answer("keeps(), neither has room", x.keeps(), false);
        x.filter(-1, 0, 31, true);
        DUE.answer("run()", x.run(), 0);
        DUE.answer("plain()", x.plain(), -4);
        DUE.answer("keeps(), the plain ones have no room, and there are no ROWS", x.keeps(), false);
        // The run is by HINT 1, 0, 2 and has no room; by the numbers 1 finds none behind 0.
        x = new JoinOrder();
        Given.tellSubjects(x, 1, 0, 23);
        x.pattern(-1, 0, 0);
        x.pattern(-2, 1, 0);
        x.pattern(-3, 1, 0);
        x.hint(1, 2);
        x.hint(2, 0);
        DUE.answer("run(), 529", x.run(), -4);
        DUE.answer("plain()", x.plain(), 0);
        DUE.answer("keeps(), the run has no room, and there are no plain ROWS", x.keeps(), false);
    }

    private BoundaryTests() {
    }
}
