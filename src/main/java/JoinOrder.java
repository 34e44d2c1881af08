/**
 * Plans for patterns over triples, and the rows that they find.
 *
 * <p>All arrays are made with the object and used again by every call, so that no call makes an object.
 */
public final class JoinOrder {
    private static final int MOST_TRIPLES = 80;
    private static final int MOST_PATTERNS = 8;
    private static final int MOST_FILTERS = 8;
    private static final int MOST_ROWS = 500;
    private static final int MOST_SIZE = 100;
    private static final int TERMS = 32;
    private static final int VARIABLES = 8;
    private static final int PLACES = 3;
    private static final int KINDS = 4;
    private static final int SETS = 1 << MOST_PATTERNS;
    private static final int NOTHING = -1;

    private static final int DONE = 1;
    private static final int UNKNOWN = -1;
    private static final int OUTSIDE = -2;
    private static final int WRONG_STATE = -3;
    private static final int NO_ROOM = -4;

    private static final int ASKS_PATTERN = 0;
    private static final int ASKS_JOIN = 1;
    private static final int ASKS_FILTERS = 2;

    private final Triples triples = new Triples();
    private final Patterns patterns = new Patterns();
    private final Filters filters = new Filters();
    private final Planner planner = new Planner();
    private final Plan made = new Plan();
    private final Table last = new Table();
    private boolean hasRun;
    private final int[] plainOrder = new int[MOST_PATTERNS];
    private final Table plainOnes = new Table();

    public JoinOrder() {
    }

    public int triple(int s, int p, int o) {
        if (!isTerm(s) || !isTerm(p) || !isTerm(o)) {
            return OUTSIDE;
        }
        int told = Triples.pack(s, p, o);
        if (triples.has(told)) {
            return triples.count;
        }
        if (triples.count >= MOST_TRIPLES) {
            return NO_ROOM;
        }
        triples.add(told);
        patterns.meetAll(told);
        return triples.count;
    }

    public int pattern(int s, int p, int o) {
        if (!isSlot(s) || !isSlot(p) || !isSlot(o)) {
            return OUTSIDE;
        }
        if (patterns.count >= MOST_PATTERNS) {
            return NO_ROOM;
        }
        return patterns.add(s, p, o, triples);
    }

    public int optional(int pattern, int of) {
        if (!patterns.has(pattern) || !patterns.has(of)) {
            return UNKNOWN;
        }
        if (!patterns.isRequired(pattern) || patterns.isHinted(pattern) || patterns.hangsOn(of, pattern)) {
            return WRONG_STATE;
        }
        patterns.hang(pattern, of);
        return DONE;
    }

    public int filter(int variable, int kind, int value, boolean safe) {
        if (!isVariable(variable) || kind < 0 || kind >= KINDS || !isTerm(value)) {
            return OUTSIDE;
        }
        if (filters.count >= MOST_FILTERS) {
            return NO_ROOM;
        }
        return filters.add(indexOf(variable), kind, value, safe);
    }

    public int cost(int pattern, int size) {
        if (!patterns.has(pattern)) {
            return UNKNOWN;
        }
        if (size < NOTHING || size > MOST_SIZE) {
            return OUTSIDE;
        }
        patterns.told[pattern] = size;
        return DONE;
    }

    public int hint(int pattern, int other) {
        if (!patterns.has(pattern) || !patterns.has(other)) {
            return UNKNOWN;
        }
        if (!patterns.isRequired(pattern) || !patterns.isRequired(other)) {
            return WRONG_STATE;
        }
        if (pattern == other || patterns.isBefore(other, pattern)) {
            return WRONG_STATE;
        }
        patterns.putBefore(pattern, other);
        return DONE;
    }

    public int plan() {
        planner.arrange(patterns, filters, made);
        return made.steps;
    }

    public int step(int i, int what) {
        if (!made.has(i)) {
            return UNKNOWN;
        }
        switch (what) {
            case ASKS_PATTERN:
                return made.order[i];
            case ASKS_JOIN:
                return made.joins[i];
            case ASKS_FILTERS:
                return Integer.bitCount(made.acting[i]);
            default:
                return OUTSIDE;
        }
    }

    public long estimate(int i) {
        return made.has(i) ? made.estimates[i] : UNKNOWN;
    }

    public int move(int filter) {
        if (filter < 0 || filter >= made.filters) {
            return UNKNOWN;
        }
        return made.steps == 0 ? WRONG_STATE : made.actsBehind[filter];
    }

    public int run() {
        planner.arrange(patterns, filters, made);
        hasRun = true;
        last.start();
        for (int i = 0; i < made.steps; i++) {
            last.join(patterns, made.order[i]);
            last.sift(filters, made.acting[i]);
        }
        if (made.steps == 0) {
            last.sift(filters, filters.all());
        }
        return last.answer();
    }

    public int row(int i, int variable) {
        if (i < 0 || i >= last.count) {
            return UNKNOWN;
        }
        if (!isVariable(variable)) {
            return OUTSIDE;
        }
        return Table.termOf(last.rows[i], indexOf(variable));
    }

    public int plain() {
        makePlainOnes();
        return plainOnes.answer();
    }

    public boolean keeps() {
        if (!hasRun || last.crowded) {
            return false;
        }
        makePlainOnes();
        return !plainOnes.crowded && plainOnes.bindsTheSame(last);
    }

    private void makePlainOnes() {
        int steps = patterns.orderByNumbers(plainOrder);
        plainOnes.start();
        for (int i = 0; i < steps; i++) {
            plainOnes.join(patterns, plainOrder[i]);
        }
        plainOnes.sift(filters, filters.all());
    }

    private static boolean isTerm(int x) {
        return x >= 0 && x < TERMS;
    }

    private static boolean isVariable(int x) {
        return x < 0 && x >= -VARIABLES;
    }

    private static boolean isSlot(int x) {
        return isTerm(x) || isVariable(x);
    }

    private static int indexOf(int variable) {
        return -1 - variable;
    }

    private static boolean inSet(int set, int member) {
        return (set >> member & 1) != 0;
    }

    /** The TRIPLES in the order of their telling, each in one int so that a comparison takes all three at once. */
    private static final class Triples {
        private static final int BITS = 5;
        private static final int ONE_TERM = (1 << BITS) - 1;

        private final int[] packed = new int[MOST_TRIPLES];
        private int count;

        static int pack(int s, int p, int o) {
            return at(s, 0) | at(p, 1) | at(o, 2);
        }

        static int at(int term, int place) {
            return term << place * BITS;
        }

        static int part(int triple, int place) {
            return triple >> place * BITS & ONE_TERM;
        }

        boolean has(int triple) {
            for (int i = 0; i < count; i++) {
                if (packed[i] == triple) {
                    return true;
                }
            }
            return false;
        }

        void add(int triple) {
            packed[count] = triple;
            count++;
        }
    }

    /** The PATTERNS; what each of them MATCHES is kept up with every new TRIPLE, so that no plan counts anew. */
    private static final class Patterns {
        private final int[] slots = new int[MOST_PATTERNS * PLACES];
        private final int[] termsSeen = new int[MOST_PATTERNS * PLACES];
        private final int[] matches = new int[MOST_PATTERNS * MOST_TRIPLES];
        private final int[] matchCount = new int[MOST_PATTERNS];
        private final int[] variables = new int[MOST_PATTERNS];
        private final int[] havingVariable = new int[VARIABLES];
        private final int[] told = new int[MOST_PATTERNS];
        private final int[] parent = new int[MOST_PATTERNS];
        private final int[] allBefore = new int[MOST_PATTERNS];
        private int required;
        private int hinted;
        private int count;

        boolean has(int p) {
            return p >= 0 && p < count;
        }

        boolean isRequired(int p) {
            return inSet(required, p);
        }

        boolean isHinted(int p) {
            return inSet(hinted, p);
        }

        int slot(int p, int place) {
            return slots[p * PLACES + place];
        }

        int size(int p) {
            return told[p] != NOTHING ? told[p] : matchCount[p];
        }

        int spreadAt(int p, int place) {
            return Math.max(1, Integer.bitCount(termsSeen[p * PLACES + place]));
        }

        int add(int s, int p, int o, Triples triples) {
            int number = count;
            count++;
            putSlot(number, 0, s);
            putSlot(number, 1, p);
            putSlot(number, 2, o);
            told[number] = NOTHING;
            parent[number] = NOTHING;
            required |= 1 << number;
            for (int i = 0; i < triples.count; i++) {
                meet(number, triples.packed[i]);
            }
            return number;
        }

        private void putSlot(int p, int place, int slot) {
            slots[p * PLACES + place] = slot;
            if (slot < 0) {
                variables[p] |= 1 << indexOf(slot);
                havingVariable[indexOf(slot)] |= 1 << p;
            }
        }

        void meetAll(int triple) {
            for (int p = 0; p < count; p++) {
                meet(p, triple);
            }
        }

        private void meet(int p, int triple) {
            if (matchCount[p] >= MOST_TRIPLES || !fits(p, triple)) {
                return;
            }
            matches[p * MOST_TRIPLES + matchCount[p]] = triple;
            matchCount[p]++;
            for (int place = 0; place < PLACES; place++) {
                termsSeen[p * PLACES + place] |= 1 << Triples.part(triple, place);
            }
        }

        private boolean fits(int p, int triple) {
            for (int place = 0; place < PLACES; place++) {
                int slot = slot(p, place);
                int term = Triples.part(triple, place);
                if (slot >= 0 ? term != slot : !agrees(p, triple, place)) {
                    return false;
                }
            }
            return true;
        }

        private boolean agrees(int p, int triple, int place) {
            for (int earlier = 0; earlier < place; earlier++) {
                if (slot(p, earlier) == slot(p, place)
                        && Triples.part(triple, earlier) != Triples.part(triple, place)) {
                    return false;
                }
            }
            return true;
        }

        /** Whether a PATTERN is the root, or is OF it through others; no chain is longer than the PATTERNS are many. */
        boolean hangsOn(int p, int root) {
            int at = p;
            for (int i = 0; i < count && at != NOTHING; i++) {
                if (at == root) {
                    return true;
                }
                at = parent[at];
            }
            return false;
        }

        void hang(int p, int of) {
            parent[p] = of;
            required &= ~(1 << p);
        }

        boolean isBefore(int first, int second) {
            return inSet(allBefore[second], first);
        }

        /** What comes before through others is written down at once, so that a look at one set tells it. */
        void putBefore(int first, int second) {
            int news = allBefore[first] | 1 << first;
            for (int p = 0; p < count; p++) {
                if (p == second || isBefore(second, p)) {
                    allBefore[p] |= news;
                }
            }
            hinted |= 1 << first | 1 << second;
        }

        int orderByNumbers(int[] order) {
            int steps = 0;
            for (int p = 0; p < count; p++) {
                if (isRequired(p)) {
                    order[steps] = p;
                    steps++;
                }
            }
            orderOptional(order, steps);
            return count;
        }

        void orderOptional(int[] order, int from) {
            int come = required;
            for (int i = from; i < count; i++) {
                int p = nextOptional(come);
                order[i] = p;
                come |= 1 << p;
            }
        }

        /** There always is one that can come, as each chain of OPTIONAL ones ends at a REQUIRED one. */
        private int nextOptional(int come) {
            for (int p = 0; p < count; p++) {
                if (!inSet(come, p) && inSet(come, parent[p])) {
                    return p;
                }
            }
            return 0;
        }
    }

    private static final class Filters {
        private static final int IS = 0;
        private static final int IS_NOT = 1;
        private static final int LESS = 2;

        private final int[] variable = new int[MOST_FILTERS];
        private final int[] kind = new int[MOST_FILTERS];
        private final int[] value = new int[MOST_FILTERS];
        private int safeOnes;
        private int count;

        int add(int index, int newKind, int newValue, boolean safe) {
            int number = count;
            count++;
            variable[number] = index;
            kind[number] = newKind;
            value[number] = newValue;
            if (safe) {
                safeOnes |= 1 << number;
            }
            return number;
        }

        int all() {
            return (1 << count) - 1;
        }

        boolean allHold(int set, long row) {
            for (int f = 0; f < count; f++) {
                if (inSet(set, f) && !holds(f, Table.termOf(row, variable[f]))) {
                    return false;
                }
            }
            return true;
        }

        private boolean holds(int f, int term) {
            if (term == NOTHING) {
                return false;
            }
            switch (kind[f]) {
                case IS:
                    return term == value[f];
                case IS_NOT:
                    return term != value[f];
                case LESS:
                    return term < value[f];
                default:
                    return term > value[f];
            }
        }
    }

    /** THE PLAN made last, with all that is asked of it later: what is told meanwhile must not change it. */
    private static final class Plan {
        private static final int FIRST = 0;
        private static final int CROSSED = 1;
        private static final int FROM_FEWER = 2;
        private static final int FROM_MORE = 3;
        private static final int MAY_MISS = 4;

        private final int[] order = new int[MOST_PATTERNS];
        private final int[] joins = new int[MOST_PATTERNS];
        private final int[] acting = new int[MOST_PATTERNS];
        private final long[] estimates = new long[MOST_PATTERNS];
        private final int[] actsBehind = new int[MOST_FILTERS];
        private int steps;
        private int filters;

        boolean has(int step) {
            return step >= 0 && step < steps;
        }

        void placeFilters(Filters told, Patterns patterns) {
            filters = told.count;
            for (int i = 0; i < steps; i++) {
                acting[i] = 0;
            }
            if (steps == 0) {
                return;
            }
            for (int f = 0; f < filters; f++) {
                int behind = inSet(told.safeOnes, f) ? firstBinding(told.variable[f], patterns) : steps - 1;
                actsBehind[f] = behind;
                acting[behind] |= 1 << f;
            }
        }

        private int firstBinding(int variable, Patterns patterns) {
            for (int i = 0; i < steps; i++) {
                int p = order[i];
                if (patterns.isRequired(p) && inSet(patterns.variables[p], variable)) {
                    return i;
                }
            }
            return steps - 1;
        }
    }

    /** Finds THE PLAN: which PATTERNS may come next, and at what COST, hangs on the set before, not on its order. */
    private static final class Planner {
        private final int[] spreads = new int[MOST_PATTERNS * VARIABLES];
        private final int[] sizes = new int[MOST_PATTERNS];
        private final long[] estimates = new long[SETS];
        private final long[] costAhead = new long[SETS];

        void arrange(Patterns patterns, Filters filters, Plan plan) {
            measure(patterns);
            weighSets(patterns);
            plan.steps = patterns.count;
            int steps = orderRequired(patterns, plan);
            patterns.orderOptional(plan.order, steps);
            for (int i = steps; i < plan.steps; i++) {
                plan.joins[i] = Plan.MAY_MISS;
                plan.estimates[i] = estimates[patterns.required];
            }
            plan.placeFilters(filters, patterns);
        }

        private void measure(Patterns patterns) {
            for (int p = 0; p < patterns.count; p++) {
                sizes[p] = patterns.size(p);
                for (int place = 0; place < PLACES; place++) {
                    int slot = patterns.slot(p, place);
                    if (slot < 0) {
                        spreads[p * VARIABLES + indexOf(slot)] = patterns.spreadAt(p, place);
                    }
                }
            }
        }

        /** From the fullest set down, as what lies ahead of a set hangs on the sets that are larger by one. */
        private void weighSets(Patterns patterns) {
            int required = patterns.required;
            for (int set = required; set >= 0; set--) {
                if ((set & ~required) == 0) {
                    estimates[set] = estimateOf(set, patterns);
                    costAhead[set] = leastCostAhead(set, patterns);
                }
            }
        }

        private long estimateOf(int set, Patterns patterns) {
            long rows = 1;
            for (int p = 0; p < MOST_PATTERNS; p++) {
                if (inSet(set, p)) {
                    rows *= sizes[p];
                }
            }
            for (int v = 0; v < VARIABLES; v++) {
                rows = dividedBySpreads(rows, v, set & patterns.havingVariable[v]);
            }
            return rows;
        }

        /**
         * Rounding up at each division ends at the same number as rounding up once at last, and the divisors, whose
         * product may be too great for a long, need not be multiplied. Of two spreads the lesser one waits, so that at
         * last the least one of all has not divided.
         */
        private long dividedBySpreads(long product, int variable, int having) {
            long rows = product;
            int least = 0;
            for (int p = 0; p < MOST_PATTERNS && having >> p != 0; p++) {
                if (inSet(having, p)) {
                    int spread = spreads[p * VARIABLES + variable];
                    if (least == 0) {
                        least = spread;
                    } else {
                        rows = dividedUp(rows, Math.max(least, spread));
                        least = Math.min(least, spread);
                    }
                }
            }
            return rows;
        }

        private static long dividedUp(long rows, int divisor) {
            return divisor > 1 ? (rows + divisor - 1) / divisor : rows;
        }

        private long leastCostAhead(int set, Patterns patterns) {
            int next = nextOnes(set, patterns);
            long least = 0;
            boolean any = false;
            for (int p = 0; p < MOST_PATTERNS; p++) {
                if (inSet(next, p)) {
                    long through = costThrough(set, p);
                    least = any ? Math.min(least, through) : through;
                    any = true;
                }
            }
            return least;
        }

        private long costThrough(int set, int p) {
            int larger = set | 1 << p;
            return estimates[larger] + costAhead[larger];
        }

        /** Those that may come behind a set in a GOOD order. */
        private static int nextOnes(int set, Patterns patterns) {
            int bound = variablesOf(set, patterns);
            int free = 0;
            int joined = 0;
            for (int p = 0; p < patterns.count; p++) {
                boolean waits = inSet(patterns.required & ~set, p);
                if (waits && (patterns.allBefore[p] & ~set) == 0) {
                    free |= 1 << p;
                    if ((patterns.variables[p] & bound) != 0) {
                        joined |= 1 << p;
                    }
                }
            }
            return joined != 0 ? joined : free;
        }

        private static int variablesOf(int set, Patterns patterns) {
            int variables = 0;
            for (int p = 0; p < patterns.count; p++) {
                if (inSet(set, p)) {
                    variables |= patterns.variables[p];
                }
            }
            return variables;
        }

        private int orderRequired(Patterns patterns, Plan plan) {
            int steps = Integer.bitCount(patterns.required);
            int set = 0;
            for (int i = 0; i < steps; i++) {
                int p = cheapestNext(set, patterns);
                plan.order[i] = p;
                plan.joins[i] = joinOf(p, set, patterns);
                set |= 1 << p;
                plan.estimates[i] = estimates[set];
            }
            return steps;
        }

        private int cheapestNext(int set, Patterns patterns) {
            int next = nextOnes(set, patterns);
            for (int p = 0; p < MOST_PATTERNS; p++) {
                if (inSet(next, p) && costThrough(set, p) == costAhead[set]) {
                    return p;
                }
            }
            return 0;
        }

        private int joinOf(int p, int set, Patterns patterns) {
            if (set == 0) {
                return Plan.FIRST;
            }
            if ((patterns.variables[p] & variablesOf(set, patterns)) == 0) {
                return Plan.CROSSED;
            }
            return estimates[set] <= sizes[p] ? Plan.FROM_FEWER : Plan.FROM_MORE;
        }
    }

    /**
     * ROWS, each in one long: six bits for each VARIABLE (its TERM and one, 0 for nothing), and above them a bit for
     * each OPTIONAL PATTERN that found none for the ROW or was left.
     */
    private static final class Table {
        private static final int BITS = 6;
        private static final int ONE_BINDING = (1 << BITS) - 1;
        private static final int ALL_BITS = BITS * VARIABLES;
        private static final long ALL_BINDINGS = (1L << ALL_BITS) - 1;

        private long[] rows = new long[MOST_ROWS];
        private long[] spare = new long[MOST_ROWS];
        private int count;
        private int found;
        private boolean crowded;

        static int termOf(long row, int variable) {
            return (int) (row >> variable * BITS & ONE_BINDING) - 1;
        }

        void start() {
            rows[0] = 0;
            count = 1;
            crowded = false;
        }

        int answer() {
            return crowded ? NO_ROOM : count;
        }

        void join(Patterns patterns, int p) {
            found = 0;
            for (int i = 0; i < count && !crowded; i++) {
                extend(rows[i], patterns, p);
            }
            long[] old = rows;
            rows = spare;
            spare = old;
            count = crowded ? 0 : found;
        }

        private void extend(long row, Patterns patterns, int p) {
            int of = patterns.parent[p];
            if (of != NOTHING && missed(row, of)) {
                put(row | missing(p));
                return;
            }
            int foundBefore = found;
            putMatches(row, patterns, p);
            if (of != NOTHING && found == foundBefore) {
                put(row | missing(p));
            }
        }

        private void putMatches(long row, Patterns patterns, int p) {
            int mask = 0;
            int wanted = 0;
            for (int place = 0; place < PLACES; place++) {
                int slot = patterns.slot(p, place);
                int term = slot < 0 ? termOf(row, indexOf(slot)) : NOTHING;
                if (term != NOTHING) {
                    mask |= Triples.at(Triples.ONE_TERM, place);
                    wanted |= Triples.at(term, place);
                }
            }
            int from = p * MOST_TRIPLES;
            for (int i = from; i < from + patterns.matchCount[p]; i++) {
                int triple = patterns.matches[i];
                if ((triple & mask) == wanted) {
                    put(row | bindings(triple, patterns, p));
                }
            }
        }

        private static long bindings(int triple, Patterns patterns, int p) {
            long bound = 0;
            for (int place = 0; place < PLACES; place++) {
                int slot = patterns.slot(p, place);
                if (slot < 0) {
                    bound |= (long) (Triples.part(triple, place) + 1) << indexOf(slot) * BITS;
                }
            }
            return bound;
        }

        private static long missing(int p) {
            return 1L << ALL_BITS + p;
        }

        private static boolean missed(long row, int p) {
            return (row & missing(p)) != 0;
        }

        private void put(long row) {
            if (found >= MOST_ROWS) {
                crowded = true;
                return;
            }
            spare[found] = row;
            found++;
        }

        void sift(Filters filters, int acting) {
            if (acting == 0) {
                return;
            }
            int left = 0;
            for (int i = 0; i < count; i++) {
                if (filters.allHold(acting, rows[i])) {
                    rows[left] = rows[i];
                    left++;
                }
            }
            count = left;
        }

        /** Brings the own ROWS into another order, which nobody asks for afterwards; the other's stay as they are. */
        boolean bindsTheSame(Table other) {
            if (count != other.count) {
                return false;
            }
            for (int i = 0; i < count; i++) {
                rows[i] &= ALL_BINDINGS;
                spare[i] = other.rows[i] & ALL_BINDINGS;
            }
            sort(rows, count);
            sort(spare, count);
            for (int i = 0; i < count; i++) {
                if (rows[i] != spare[i]) {
                    return false;
                }
            }
            return true;
        }

        private static void sort(long[] values, int length) {
            for (int gap = length / 2; gap > 0; gap /= 2) {
                for (int i = gap; i < length; i++) {
                    long value = values[i];
                    int at = i;
                    for (; at >= gap && values[at - gap] > value; at -= gap) {
                        values[at] = values[at - gap];
                    }
                    values[at] = value;
                }
            }
        }
    }
}
