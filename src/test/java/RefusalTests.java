/**
 * "REFUSALS change nothing": each refused call is made on one of two objects that have been told the same, and then both
 * are asked and told the same again; every answer must be alike.
 */
public final class RefusalTests {
    private static final int LEAST = Integer.MIN_VALUE;
    private static final int MOST = Integer.MAX_VALUE;

    private static final Due DUE = new Due("RefusalTests");

    private interface State {
        JoinOrder build();
    }

    private interface Call {
        long on(JoinOrder x);
    }

    private static State state;
    private static String stateName;

    public static void main(String[] args) {
        statesAreAsNamed();
        inNewObject();
        inMiddle();
        inFull();
        inNoSteps();
        inNoRoomOfPlain();
        inNoRoomOfRun();
        repeatedTriple();
        asking();
        DUE.end();
    }

    private static void in(String name, State built) {
        stateName = name;
        state = built;
    }

    private static void refused(String call, long due, Call made) {
        JoinOrder probe = state.build();
        DUE.answer(stateName + ": " + call, made.on(probe), due);
        dueAlike(call, made, false);
        dueAlike(call, made, true);
    }

    private static void dueAlike(String call, Call made, boolean byOptional) {
        JoinOrder told = state.build();
        made.on(told);
        made.on(told);
        DUE.answer(stateName + ": what stands behind " + call, traces(told, byOptional), traces(state.build(), byOptional));
    }

    /**
     * What can be seen of an object: as it stands, run again, and told more, with HINTS or with OPTIONAL ones. This takes
     * 350 calls; with those that build it an object stays below the 512 that it is used for.
     */
    private static String traces(JoinOrder x, boolean byOptional) {
        StringBuilder seen = new StringBuilder();
        look(x, seen);
        seen.append(" keeps ").append(x.keeps()).append(" plain ").append(x.plain());
        seen.append(" run ").append(x.run());
        look(x, seen);
        seen.append(" told");
        for (int i = 0; i < 8; i++) {
            for (int j = 0; j < 8; j++) {
                seen.append(' ').append(byOptional ? x.optional(j, i) : x.hint(i, j));
            }
        }
        seen.append(" triple ").append(x.triple(15, 4, 15)).append(' ').append(x.triple(29, 30, 31));
        seen.append(" pattern ").append(x.pattern(-1, 31, -2));
        seen.append(" filter ").append(x.filter(-1, 1, 30, true));
        seen.append(" plan ").append(x.plan());
        lookAtPlan(x, seen);
        return seen.toString();
    }

    private static void look(JoinOrder x, StringBuilder seen) {
        lookAtPlan(x, seen);
        seen.append(" rows");
        for (int i = 0; i < 8; i++) {
            for (int variable = -8; variable <= 0; variable++) {
                seen.append(' ').append(x.row(i, variable));
            }
        }
    }

    private static void lookAtPlan(JoinOrder x, StringBuilder seen) {
        seen.append(" steps");
        for (int i = 0; i < 9; i++) {
            seen.append(' ').append(x.step(i, 0)).append(x.step(i, 1)).append(x.step(i, 2));
            seen.append(' ').append(x.estimate(i)).append(' ').append(x.move(i));
        }
    }

    /**
     * PATTERNS 0, 1, 2 REQUIRED with a HINT, 3 and 4 OPTIONAL, of which one ROW finds both, the other none. 5 is told
     * behind the run, so that what stands of the last run is not what a new one would find.
     */
    private static JoinOrder middle() {
        JoinOrder x = new JoinOrder();
        int[] parts = {1, 0, 2, 3, 0, 2, 2, 0, 4, 2, 0, 5, 4, 1, 6, 5, 1, 7, 1, 1, 8, 8, 1, 9, 30, 1, 10};
        for (int i = 0; i < parts.length; i += 3) {
            x.triple(parts[i], parts[i + 1], parts[i + 2]);
        }
        x.pattern(-1, 0, -2);
        x.pattern(-2, 0, -3);
        x.pattern(-3, 1, -4);
        x.pattern(-1, 1, -5);
        x.pattern(-5, 1, -6);
        x.hint(1, 0);
        x.optional(3, 0);
        x.optional(4, 3);
        x.filter(-2, 1, 9, true);
        x.filter(-4, 1, 7, false);
        x.cost(2, 7);
        x.run();
        x.triple(5, 1, 3);
        x.pattern(-3, 1, -7);
        x.cost(0, 3);
        x.filter(-7, 1, 6, true);
        return x;
    }

    private static JoinOrder full() {
        JoinOrder x = new JoinOrder();
        for (int i = 0; i < 80; i++) {
            x.triple(i % 16, i / 16, i % 16);
        }
        for (int i = 0; i < 8; i++) {
            x.pattern(-1 - i, i % 5, -1 - (i + 1) % 8);
        }
        for (int i = 0; i < 8; i++) {
            x.filter(-1 - i, i % 2 == 0 ? 3 : 2, i % 2 == 0 ? 5 : 9, i < 4);
        }
        x.optional(7, 6);
        x.hint(5, 4);
        x.run();
        return x;
    }

    private static JoinOrder noSteps() {
        JoinOrder x = new JoinOrder();
        x.filter(-1, 0, 0, true);
        x.filter(-2, 1, 0, false);
        x.run();
        return x;
    }

    /** The plan finds two ROWS, the plain ones are 529 on the way. */
    private static JoinOrder noRoomOfPlain() {
        JoinOrder x = new JoinOrder();
        for (int i = 0; i < 23; i++) {
            x.triple(i, 0, 1);
        }
        x.pattern(-1, 0, 1);
        x.pattern(-2, 0, 1);
        x.filter(-1, 0, 5, true);
        x.filter(-2, 2, 2, true);
        x.run();
        return x;
    }

    /** The last run has no room; the one before it had. */
    private static JoinOrder noRoomOfRun() {
        JoinOrder x = new JoinOrder();
        for (int i = 0; i < 23; i++) {
            x.triple(i, 0, 1);
        }
        x.triple(1, 1, 1);
        x.pattern(-1, 1, 1);
        x.run();
        x.pattern(-2, 0, 1);
        x.pattern(-3, 0, 1);
        x.run();
        return x;
    }

    private static void statesAreAsNamed() {
        DUE.sentence("Tests", "the objects that the refused calls are made on");
        JoinOrder x = middle();
        DUE.answer("middle: two ROWS stand", x.row(1, 0), -2);
        DUE.answer("middle: the first found 4", x.row(0, -6), 9);
        DUE.answer("middle: the second did not find 3", x.row(1, -5), -1);
        DUE.answer("middle: five steps stand", x.step(4, 0), 4);
        DUE.answer("middle: no sixth", x.step(5, 0), -1);
        DUE.answer("middle: keeps()", x.keeps(), false);
        DUE.answer("middle: plan()", x.plan(), 6);
        x = full();
        DUE.answer("full: three ROWS", x.row(2, 0), -2);
        DUE.answer("full: no fourth", x.row(3, 0), -1);
        DUE.answer("full: keeps()", x.keeps(), true);
        x = noSteps();
        DUE.answer("no steps: plan()", x.plan(), 0);
        x = noRoomOfPlain();
        DUE.answer("no room of plain: two ROWS", x.row(1, 0), -2);
        DUE.answer("no room of plain: plain()", x.plain(), -4);
        x = noRoomOfRun();
        DUE.answer("no room of run: no ROW", x.row(0, 0), -1);
        DUE.answer("no room of run: run()", x.run(), -4);
    }

    private static void inNewObject() {
        in("new", JoinOrder::new);
        DUE.sentence("Promise 2", "-2 (nothing told yet)");
        refused("triple(-1, 0, 0)", -2, x -> x.triple(-1, 0, 0));
        refused("triple(0, 32, 0)", -2, x -> x.triple(0, 32, 0));
        DUE.sentence("Promise 3", "-2 (nothing told yet)");
        refused("pattern(-9, 0, 0)", -2, x -> x.pattern(-9, 0, 0));
        refused("pattern(0, 0, 32)", -2, x -> x.pattern(0, 0, 32));
        DUE.sentence("Promise 4", "-1 (nothing told yet)");
        refused("optional(0, 0)", -1, x -> x.optional(0, 0));
        refused("optional(0, 1)", -1, x -> x.optional(0, 1));
        DUE.sentence("Promise 5", "-2 (nothing told yet)");
        refused("filter(0, 0, 0, true)", -2, x -> x.filter(0, 0, 0, true));
        refused("filter(-1, 4, 0, true)", -2, x -> x.filter(-1, 4, 0, true));
        refused("filter(-1, 0, 32, false)", -2, x -> x.filter(-1, 0, 32, false));
        DUE.sentence("Promise 6", "-1 (nothing told yet)");
        refused("cost(0, 5)", -1, x -> x.cost(0, 5));
        refused("cost(0, 101)", -1, x -> x.cost(0, 101));
        DUE.sentence("Promise 7", "-1 (nothing told yet)");
        refused("hint(0, 0)", -1, x -> x.hint(0, 0));
        refused("hint(0, 1)", -1, x -> x.hint(0, 1));
        DUE.sentence("Promises 9, 10, 11, 13", "-1 (nothing made yet)");
        refused("step(0, 0)", -1, x -> x.step(0, 0));
        refused("estimate(0)", -1, x -> x.estimate(0));
        refused("move(0)", -1, x -> x.move(0));
        refused("row(0, -1)", -1, x -> x.row(0, -1));
    }

    private static void inMiddle() {
        in("middle", RefusalTests::middle);
        tellingOutside();
        tellingOptional();
        tellingHints();
        DUE.sentence("Promise 6", "-1, -2 change nothing");
        refused("cost(6, 5)", -1, x -> x.cost(6, 5));
        refused("cost(-1, 5)", -1, x -> x.cost(-1, 5));
        refused("cost(2, 101)", -2, x -> x.cost(2, 101));
        refused("cost(2, -2)", -2, x -> x.cost(2, -2));
        refused("cost(1, " + LEAST + ")", -2, x -> x.cost(1, LEAST));
        refused("cost(1, " + MOST + ")", -2, x -> x.cost(1, MOST));
    }

    private static void tellingOutside() {
        DUE.sentence("Promise 2", "-2 changes nothing");
        refused("triple(32, 0, 4)", -2, x -> x.triple(32, 0, 4));
        refused("triple(4, -1, 4)", -2, x -> x.triple(4, -1, 4));
        refused("triple(4, 1, 32)", -2, x -> x.triple(4, 1, 32));
        DUE.sentence("Promise 3", "-2 changes nothing");
        refused("pattern(-9, 0, -1)", -2, x -> x.pattern(-9, 0, -1));
        refused("pattern(-1, 32, -1)", -2, x -> x.pattern(-1, 32, -1));
        refused("pattern(-1, 0, " + LEAST + ")", -2, x -> x.pattern(-1, 0, LEAST));
        DUE.sentence("Promise 5", "-2 changes nothing");
        refused("filter(0, 0, 0, true)", -2, x -> x.filter(0, 0, 0, true));
        refused("filter(-9, 0, 0, true)", -2, x -> x.filter(-9, 0, 0, true));
        refused("filter(-1, -1, 0, true)", -2, x -> x.filter(-1, -1, 0, true));
        refused("filter(-1, 4, 0, false)", -2, x -> x.filter(-1, 4, 0, false));
        refused("filter(-1, 0, -1, true)", -2, x -> x.filter(-1, 0, -1, true));
        refused("filter(-1, 0, 32, false)", -2, x -> x.filter(-1, 0, 32, false));
    }

    private static void tellingOptional() {
        DUE.sentence("Promise 4", "-1 changes nothing");
        refused("optional(6, 0)", -1, x -> x.optional(6, 0));
        refused("optional(-1, 0)", -1, x -> x.optional(-1, 0));
        refused("optional(2, 6)", -1, x -> x.optional(2, 6));
        refused("optional(2, -1)", -1, x -> x.optional(2, -1));
        DUE.sentence("Promise 4", "-3 changes nothing");
        refused("optional(3, 2), is it already", -3, x -> x.optional(3, 2));
        refused("optional(4, 0), is it already", -3, x -> x.optional(4, 0));
        refused("optional(0, 2), a HINT tells of it", -3, x -> x.optional(0, 2));
        refused("optional(1, 2), a HINT tells of it", -3, x -> x.optional(1, 2));
        refused("optional(2, 2), itself", -3, x -> x.optional(2, 2));
        refused("optional(5, 5), itself", -3, x -> x.optional(5, 5));
        in("middle, 2 on top", () -> {
            JoinOrder x = middle();
            x.optional(5, 2);
            return x;
        });
        refused("optional(2, 5), the other one is OF it", -3, x -> x.optional(2, 5));
        in("middle", RefusalTests::middle);
    }

    private static void tellingHints() {
        DUE.sentence("Promise 7", "-1 changes nothing");
        refused("hint(6, 2)", -1, x -> x.hint(6, 2));
        refused("hint(2, 6)", -1, x -> x.hint(2, 6));
        refused("hint(-1, 2)", -1, x -> x.hint(-1, 2));
        refused("hint(2, -1)", -1, x -> x.hint(2, -1));
        DUE.sentence("Promise 7", "-3 changes nothing");
        refused("hint(3, 2), the first is OPTIONAL", -3, x -> x.hint(3, 2));
        refused("hint(2, 3), the other is OPTIONAL", -3, x -> x.hint(2, 3));
        refused("hint(3, 4), both are OPTIONAL", -3, x -> x.hint(3, 4));
        refused("hint(2, 2), both are one", -3, x -> x.hint(2, 2));
        refused("hint(0, 1), the other way round is told", -3, x -> x.hint(0, 1));
        in("middle, 1, 0, 5", () -> {
            JoinOrder x = middle();
            x.hint(0, 5);
            return x;
        });
        refused("hint(5, 1), the other way round is told through another", -3, x -> x.hint(5, 1));
        in("middle", RefusalTests::middle);
    }

    private static void inFull() {
        in("full", RefusalTests::full);
        DUE.sentence("Promise 2", "-4 changes nothing");
        refused("triple(31, 31, 31)", -4, x -> x.triple(31, 31, 31));
        refused("triple(6, 0, 7), which a PATTERN would MATCH", -4, x -> x.triple(6, 0, 7));
        refused("triple(31, 31, 32)", -2, x -> x.triple(31, 31, 32));
        DUE.sentence("Promise 3", "-4 changes nothing");
        refused("pattern(-1, 0, -2)", -4, x -> x.pattern(-1, 0, -2));
        refused("pattern(31, 31, 31)", -4, x -> x.pattern(31, 31, 31));
        refused("pattern(31, 31, 32)", -2, x -> x.pattern(31, 31, 32));
        DUE.sentence("Promise 5", "-4 changes nothing");
        refused("filter(-1, 0, 31, true)", -4, x -> x.filter(-1, 0, 31, true));
        refused("filter(-8, 1, 0, false)", -4, x -> x.filter(-8, 1, 0, false));
        refused("filter(-8, 1, 32, false)", -2, x -> x.filter(-8, 1, 32, false));
        DUE.sentence("Promises 4, 6, 7", "-1 changes nothing (behind the eighth)");
        refused("optional(8, 0)", -1, x -> x.optional(8, 0));
        refused("cost(8, 0)", -1, x -> x.cost(8, 0));
        refused("hint(0, 8)", -1, x -> x.hint(0, 8));
    }

    private static void inNoSteps() {
        in("no steps", RefusalTests::noSteps);
        DUE.sentence("Promise 11", "(-3: there are no steps) changes nothing");
        refused("move(0)", -3, x -> x.move(0));
        refused("move(1)", -3, x -> x.move(1));
        refused("move(2)", -1, x -> x.move(2));
    }

    private static void inNoRoomOfPlain() {
        in("no room of plain", RefusalTests::noRoomOfPlain);
        DUE.sentence("Promise 14", "-4 changes nothing");
        refused("plain()", -4, x -> x.plain());
        DUE.sentence("Promise 15", "false if either has no room changes nothing");
        refused("keeps()", 0, x -> x.keeps() ? 1 : 0);
    }

    private static void inNoRoomOfRun() {
        in("no room of run", RefusalTests::noRoomOfRun);
        DUE.sentence("Promise 12", "-4 (then there are none) once more changes nothing");
        refused("run()", -4, x -> x.run());
        refused("row(0, -1)", -1, x -> x.row(0, -1));
        refused("keeps()", 0, x -> x.keeps() ? 1 : 0);
    }

    private static void repeatedTriple() {
        DUE.sentence("Promise 2", "one that is there stays one");
        in("middle", RefusalTests::middle);
        refused("triple(1, 0, 2)", 10, x -> x.triple(1, 0, 2));
        refused("triple(5, 1, 3)", 10, x -> x.triple(5, 1, 3));
        in("full", RefusalTests::full);
        refused("triple(0, 0, 0)", 80, x -> x.triple(0, 0, 0));
        refused("triple(15, 4, 15)", 80, x -> x.triple(15, 4, 15));
    }

    private static void asking() {
        in("middle", RefusalTests::middle);
        DUE.sentence("Promise 9", "-1, -2 change nothing");
        refused("step(5, 0)", -1, x -> x.step(5, 0));
        refused("step(-1, 0)", -1, x -> x.step(-1, 0));
        refused("step(" + MOST + ", 3)", -1, x -> x.step(MOST, 3));
        refused("step(4, 3)", -2, x -> x.step(4, 3));
        refused("step(0, -1)", -2, x -> x.step(0, -1));
        DUE.sentence("Promise 10", "-1 changes nothing");
        refused("estimate(5)", -1, x -> x.estimate(5));
        refused("estimate(-1)", -1, x -> x.estimate(-1));
        refused("estimate(" + LEAST + ")", -1, x -> x.estimate(LEAST));
        DUE.sentence("Promise 11", "-1 changes nothing");
        refused("move(2)", -1, x -> x.move(2));
        refused("move(-1)", -1, x -> x.move(-1));
        DUE.sentence("Promise 13", "-1, -2 change nothing");
        refused("row(-1, -1)", -1, x -> x.row(-1, -1));
        refused("row(500, -1)", -1, x -> x.row(500, -1));
        refused("row(0, 0)", -2, x -> x.row(0, 0));
        refused("row(0, -9)", -2, x -> x.row(0, -9));
        DUE.sentence("Promises 14, 15", "plain() and keeps() change nothing");
        refused("plain()", 4, x -> x.plain());
        refused("keeps()", 0, x -> x.keeps() ? 1 : 0);
        in("full", RefusalTests::full);
        refused("plain()", 3, x -> x.plain());
        refused("keeps()", 1, x -> x.keeps() ? 1 : 0);
    }

    private RefusalTests() {
    }
}
