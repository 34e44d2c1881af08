/** Numbers, and objects that have been told something: sizes, spreads and rows can be counted from the arguments. */
final class Given {
    private static final int LEAST = Integer.MIN_VALUE;
    private static final int MOST = Integer.MAX_VALUE;

    // Among these are some that would be TERMS or VARIABLES if the bits above were lost.
    static final int[] NO_TERMS = {LEAST, LEAST + 1, -65536, -256, -33, -32, -31, -9, -8, -2, -1, 32, 33, 63, 64, 255, 256,
        65536, MOST - 1, MOST};
    static final int[] NO_VARIABLES = {LEAST, LEAST + 1, LEAST + 8, -65537, -257, -33, -17, -16, -10, -9, 0, 1, 2, 7, 8, 31,
        32, 255, 65535, MOST - 1, MOST};
    static final int[] NEITHER = {LEAST, LEAST + 1, -65537, -257, -256, -33, -17, -16, -10, -9, 32, 33, 63, 64, 255, 256,
        65536, MOST - 1, MOST};

    static JoinOrder withTriples(int... parts) {
        JoinOrder x = new JoinOrder();
        for (int i = 0; i < parts.length; i += 3) {
            x.triple(parts[i], parts[i + 1], parts[i + 2]);
        }
        return x;
    }

    static void tellSubjects(JoinOrder x, int predicate, int object, int howMany) {
        for (int s = 0; s < howMany; s++) {
            x.triple(s, predicate, object);
        }
    }

    static void tellObjects(JoinOrder x, int subject, int predicate, int howMany) {
        for (int o = 0; o < howMany; o++) {
            x.triple(subject, predicate, o);
        }
    }

    /** Patterns 0 and 1 with in * out rows that bind 1 to VARIABLE -2, and as many as others that bind 2 to it. */
    static JoinOrder withRows(int in, int out, int others) {
        JoinOrder x = new JoinOrder();
        tellSubjects(x, 0, 1, in);
        tellObjects(x, 1, 1, out);
        tellSubjects(x, 0, 2, others);
        x.triple(2, 1, 0);
        x.pattern(-1, 0, -2);
        x.pattern(-2, 1, -3);
        return x;
    }

    /** PATTERNS that all have the VARIABLES -1 and -2, and MATCH nothing. */
    static JoinOrder withPatterns(int howMany) {
        JoinOrder x = new JoinOrder();
        for (int i = 0; i < howMany; i++) {
            x.pattern(-1, i, -2);
        }
        return x;
    }

    /** PATTERNS of these SIZES, none of which has a VARIABLE. */
    static JoinOrder withSizes(int... sizes) {
        JoinOrder x = new JoinOrder();
        for (int i = 0; i < sizes.length; i++) {
            x.pattern(i, 0, 0);
            x.cost(i, sizes[i]);
        }
        return x;
    }

    /** Three parts, one of which is the value. */
    static int[] placed(int place, int value, int others) {
        int[] parts = {others, others, others};
        parts[place] = value;
        return parts;
    }

    static int triple(JoinOrder x, int[] parts) {
        return x.triple(parts[0], parts[1], parts[2]);
    }

    static int pattern(JoinOrder x, int[] parts) {
        return x.pattern(parts[0], parts[1], parts[2]);
    }

    private Given() {
    }
}
