import java.util.Random;

/** Long random runs of calls, from fixed seeds, of which each answer must be that of NaiveJoinOrder. */
public final class ModelTests {
    private static final int RUNS = 500;
    private static final int CALLS = 512;
    private static final int[] BAD = {
        Integer.MIN_VALUE, -100, -10, -9, -8, -5, -4, -3, -2, -1, 0, 1, 2, 3, 4, 7, 8, 9, 31, 32, 33, 79, 80, 81, 100,
        101, 499, 500, 501, Integer.MAX_VALUE
    };

    private final Random random;
    private final int terms;
    private final int predicates;
    private final int variables;
    private final JoinOrder real = new JoinOrder();
    private final NaiveJoinOrder naive = new NaiveJoinOrder();
    private final StringBuilder said = new StringBuilder();
    private boolean wrong;

    private ModelTests(long seed) {
        random = new Random(seed);
        terms = 2 + random.nextInt(random.nextBoolean() ? 6 : 31);
        predicates = 1 + random.nextInt(4);
        variables = 1 + random.nextInt(8);
    }

    public static void main(String[] args) {
        int failed = 0;
        for (int seed = 0; seed < RUNS; seed++) {
            ModelTests run = new ModelTests(seed);
            run.callAll();
            if (run.wrong) {
                failed++;
                System.out.println("seed " + seed + ":\n" + run.said);
            }
        }
        System.out.println("ModelTests: " + (RUNS - failed) + " runs as the document, " + failed + " not");
        if (failed != 0) {
            System.exit(1);
        }
    }

    private void callAll() {
        int first = random.nextInt(90);
        for (int i = 0; i < first; i++) {
            tellTriple();
        }
        int more = random.nextInt(9);
        for (int i = 0; i < more; i++) {
            tellPattern();
        }
        for (int i = first + more; i < CALLS && !wrong; i++) {
            callOne();
        }
    }

    private void due(String call, long got, long want) {
        said.append("  ").append(call).append(" = ").append(got).append('\n');
        if (got != want && !wrong) {
            wrong = true;
            said.append("  .. but due is ").append(want).append('\n');
        }
    }

    private int bad() {
        return BAD[random.nextInt(BAD.length)];
    }

    private int sometimesBad(int good) {
        return random.nextInt(25) == 0 ? bad() : good;
    }

    private int term() {
        return sometimesBad(random.nextInt(terms));
    }

    private int predicate() {
        return sometimesBad(random.nextInt(predicates));
    }

    private int variable() {
        return sometimesBad(-1 - random.nextInt(variables));
    }

    private int number() {
        return sometimesBad(random.nextInt(8));
    }

    private void tellTriple() {
        int s = term();
        int p = predicate();
        int o = term();
        due("triple(" + s + ", " + p + ", " + o + ")", real.triple(s, p, o), naive.triple(s, p, o));
    }

    private void tellPattern() {
        int s = random.nextInt(4) == 0 ? term() : variable();
        int p = random.nextInt(5) == 0 ? variable() : predicate();
        int o = random.nextInt(4) == 0 ? term() : variable();
        due("pattern(" + s + ", " + p + ", " + o + ")", real.pattern(s, p, o), naive.pattern(s, p, o));
    }

    private void callOne() {
        switch (random.nextInt(random.nextInt(6) == 0 ? 18 : 4)) {
            case 0, 1 -> askStep();
            case 2, 3 -> askRow();
            case 4, 5 -> tellTriple();
            case 6 -> tellPattern();
            case 7 -> tellOptional();
            case 8 -> tellFilter();
            case 9, 10 -> tellCost();
            case 11 -> tellHint();
            case 12, 13 -> due("plan()", real.plan(), naive.plan());
            case 14, 15 -> due("run()", real.run(), naive.run());
            case 16 -> due("plain()", real.plain(), naive.plain());
            default -> due("keeps()", real.keeps() ? 1 : 0, naive.keeps() ? 1 : 0);
        }
    }

    private void tellOptional() {
        int p = number();
        int of = number();
        due("optional(" + p + ", " + of + ")", real.optional(p, of), naive.optional(p, of));
    }

    private void tellFilter() {
        int v = variable();
        int kind = sometimesBad(random.nextInt(4));
        int value = term();
        boolean safe = random.nextBoolean();
        due("filter(" + v + ", " + kind + ", " + value + ", " + safe + ")", real.filter(v, kind, value, safe),
                naive.filter(v, kind, value, safe));
    }

    private void tellCost() {
        int p = number();
        int size = random.nextInt(3) == 0 ? 100 - random.nextInt(5) : random.nextInt(12) - 1;
        size = sometimesBad(size);
        due("cost(" + p + ", " + size + ")", real.cost(p, size), naive.cost(p, size));
    }

    private void tellHint() {
        int p = number();
        int other = number();
        due("hint(" + p + ", " + other + ")", real.hint(p, other), naive.hint(p, other));
    }

    private void askStep() {
        int i = number();
        switch (random.nextInt(3)) {
            case 0 -> {
                int what = sometimesBad(random.nextInt(3));
                due("step(" + i + ", " + what + ")", real.step(i, what), naive.step(i, what));
            }
            case 1 -> due("estimate(" + i + ")", real.estimate(i), naive.estimate(i));
            default -> due("move(" + i + ")", real.move(i), naive.move(i));
        }
    }

    private void askRow() {
        int i = random.nextInt(3) == 0 ? number() : random.nextInt(501);
        int v = variable();
        due("row(" + i + ", " + v + ")", real.row(i, v), naive.row(i, v));
    }
}
