/** Counts the answers that are as due, and prints those that are not under the sentence that they belong to. */
final class Due {
    private final String tests;
    private String sentence = "(no sentence)";
    private int answersOfSentence = 1;
    private int sentences;
    private int right;
    private int wrong;

    Due(String tests) {
        this.tests = tests;
    }

    /** What follows belongs to these words of the document. */
    void sentence(String promise, String words) {
        refuseEmptySentence();
        sentence = promise + " \"" + words + "\"";
        answersOfSentence = 0;
        sentences++;
    }

    void answer(String call, long got, long want) {
        answersOfSentence++;
        if (got == want) {
            right++;
        } else {
            wrong++;
            System.out.println(sentence + ": " + call + " answered " + got + ", due is " + want);
        }
    }

    void answer(String call, boolean got, boolean want) {
        answer(call, got ? 1 : 0, want ? 1 : 0);
    }

    void answer(String call, String got, String want) {
        answersOfSentence++;
        if (got.equals(want)) {
            right++;
        } else {
            wrong++;
            System.out.println(sentence + ": " + call + "\n  told " + got + "\n  due  " + want);
        }
    }

    /** Makes a plan, and looks at the PATTERNS of its steps. */
    void order(JoinOrder x, int... order) {
        answer("plan()", x.plan(), order.length);
        steps(x, 0, order);
    }

    /** What is told of the steps 0, 1, and so on. */
    void steps(JoinOrder x, int what, int... answers) {
        for (int i = 0; i < answers.length; i++) {
            answer(said("step", i, what), x.step(i, what), answers[i]);
        }
    }

    void estimates(JoinOrder x, long... estimates) {
        for (int i = 0; i < estimates.length; i++) {
            answer(said("estimate", i), x.estimate(i), estimates[i]);
        }
    }

    /** What row i binds to the VARIABLES -1, -2, and so on. */
    void row(JoinOrder x, int i, int... terms) {
        for (int v = 0; v < terms.length; v++) {
            answer(said("row", i, -1 - v), x.row(i, -1 - v), terms[v]);
        }
    }

    /** That there are as many rows to ask for: a row that is there answers -2 to a VARIABLE that is none. */
    void rows(JoinOrder x, int count) {
        if (count > 0) {
            answer(said("row", count - 1, 0), x.row(count - 1, 0), -2);
        }
        answer(said("row", count, 0), x.row(count, 0), -1);
    }

    static String said(String name, int... arguments) {
        StringBuilder call = new StringBuilder(name).append('(');
        for (int i = 0; i < arguments.length; i++) {
            call.append(i == 0 ? "" : ", ").append(arguments[i]);
        }
        return call.append(')').toString();
    }

    /** A sentence that nothing was asked about has no test. */
    private void refuseEmptySentence() {
        if (answersOfSentence == 0) {
            wrong++;
            System.out.println(sentence + ": no answer was looked at");
        }
    }

    void end() {
        refuseEmptySentence();
        System.out.println(tests + ": " + sentences + " sentences, " + right + " answers as due, " + wrong + " not");
        if (wrong != 0) {
            System.exit(1);
        }
    }
}
