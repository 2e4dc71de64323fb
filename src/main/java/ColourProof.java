import java.util.Arrays;

/**
 * Finds with how few colours the vertices of a graph can be coloured so that no two neighbours have one colour, and
 * keeps a log that proves that one colour less won't do; goes over such logs, whoever wrote them, line by line.
 *
 * <p>All rows are made in the constructors and used again by every call, so that no call needs new room.
 */
public final class ColourProof {
    public static final int NUMBER = -1;
    public static final int UNSOLVED = -2;
    public static final int FULL = -3;

    private static final int MAX_VERTICES = 30;
    private static final int MAX_LINES = 3000;

    /** No colour, no vertex. */
    private static final int NONE = -1;

    private static final int BRANCH = 1;
    private static final int BLOCK = 2;
    private static final int TRY = 3;
    private static final int CLOSE = 4;

    /** What check() answers of a log without a wrong line. */
    private static final int RIGHT = -1;

    /** -1 is a good answer of check() and of paint(), so they tell a wrong number by this one. */
    private static final int NUMBER_TOO = -2;

    private final Graph net = new Graph();
    private final Colouring scratch = new Colouring(net);
    private final Search searcher = new Search(net, scratch);
    private final Solution solution = new Solution(net, scratch, searcher);
    private final Log toldLog = new Log();
    private final Checker checker = new Checker(net, scratch, toldLog);
    private final ToldColours toldColours = new ToldColours(net);

    public ColourProof() {
    }

    // ---- the graph

    public int graph(int n) {
        if (n < 0 || n > MAX_VERTICES) {
            return NUMBER;
        }
        net.restart(n);
        solution.forget();
        return n;
    }

    public int edge(int a, int b, boolean on) {
        if (!net.isVertex(a) || !net.isVertex(b) || a == b) {
            return NUMBER;
        }
        if (net.joined(a, b) == on) {
            return 0;
        }
        net.flip(a, b);
        solution.forget();
        return 1;
    }

    public int draw(int seed, int part) {
        if (part < 0 || part > 100) {
            return NUMBER;
        }
        net.drawEdges(seed, part);
        solution.forget();
        return net.edges();
    }

    public int turn(int factor, int shift) {
        if (!net.isVertex(shift) || factor < 1 || factor > MAX_VERTICES || net.sharesDivisor(factor)) {
            return NUMBER;
        }
        net.renumber(factor, shift);
        solution.forget();
        return 1;
    }

    public int count(int what) {
        switch (what) {
            case 0:
                return net.size;
            case 1:
                return net.edges();
            case 2:
                return net.greatestDegree();
            default:
                return NUMBER;
        }
    }

    public boolean has(int a, int b) {
        return net.isVertex(a) && net.isVertex(b) && net.joined(a, b);
    }

    public int degree(int v) {
        return net.isVertex(v) ? net.degreeOf(v) : NUMBER;
    }

    // ---- solving

    public int solve() {
        return solution.find();
    }

    public int colour(int v) {
        if (!net.isVertex(v)) {
            return NUMBER;
        }
        return solution.stands ? solution.best[v] : UNSOLVED;
    }

    public int clique() {
        return net.greedyClique();
    }

    public int first() {
        scratch.fillGreedily();
        return scratch.standing;
    }

    public int lines() {
        return solution.stands ? solution.log.size : UNSOLVED;
    }

    public int line(int i, int what) {
        return solution.stands ? solution.log.part(i, what) : UNSOLVED;
    }

    public int work(int what) {
        if (!solution.stands) {
            return UNSOLVED;
        }
        return what < 0 || what >= Solution.TALLIES ? NUMBER : solution.tallies[what];
    }

    public int search(int k) {
        if (k < 0 || k > MAX_VERTICES) {
            return NUMBER;
        }
        int end = searcher.run(k);
        if (end == Search.OVERFULL) {
            return FULL;
        }
        toldLog.become(searcher.log);
        return end == Search.FOUND ? 1 : 0;
    }

    // ---- told logs

    public int tell(int op, int number) {
        if (!isOp(op)) {
            return NUMBER;
        }
        return toldLog.write(op, number) ? toldLog.size : FULL;
    }

    public int take() {
        if (!solution.stands) {
            return UNSOLVED;
        }
        toldLog.become(solution.log);
        return toldLog.size;
    }

    public int alter(int i, int op, int number) {
        if (!toldLog.holds(i) || !isOp(op)) {
            return NUMBER;
        }
        toldLog.ops[i] = op;
        toldLog.numbers[i] = number;
        return 1;
    }

    public int cut(int n) {
        if (n < 0 || n > toldLog.size) {
            return NUMBER;
        }
        toldLog.size = n;
        return n;
    }

    public int told(int i, int what) {
        return toldLog.part(i, what);
    }

    public int check(int k) {
        return k < 0 || k > MAX_VERTICES ? NUMBER_TOO : checker.wrongLine(k);
    }

    // ---- told colours

    public int paint(int v, int c) {
        if (v < 0 || v >= MAX_VERTICES || c != NONE && !isColour(c)) {
            return NUMBER_TOO;
        }
        int old = toldColours.of[v];
        toldColours.of[v] = c;
        return old;
    }

    public int copy() {
        if (!solution.stands) {
            return UNSOLVED;
        }
        System.arraycopy(solution.best, 0, toldColours.of, 0, net.size);
        return net.size;
    }

    public int clashes() {
        return toldColours.clashingEdges();
    }

    public int used() {
        return Integer.bitCount(toldColours.among(net.all()));
    }

    public int chain(int v, int c) {
        if (!net.isVertex(v) || !isColour(c) || toldColours.of[v] == NONE || toldColours.of[v] == c) {
            return NUMBER;
        }
        return toldColours.swapChain(v, c);
    }

    public int saturation(int v) {
        return net.isVertex(v) ? Integer.bitCount(toldColours.among(net.near[v])) : NUMBER;
    }

    private static boolean isOp(int op) {
        return op >= BRANCH && op <= CLOSE;
    }

    private static boolean isColour(int c) {
        return c >= 0 && c < MAX_VERTICES;
    }

    /** Sets of vertices, and of colours, are ints: bit i stands for i. */
    private static boolean contains(int set, int i) {
        return (set >> i & 1) != 0;
    }

    /** The set of 0 .. n - 1; n is at most 30, so the sign stays out of it. */
    private static int firstOnes(int n) {
        return (1 << n) - 1;
    }

    private static final class Graph {
        int size = 0;

        /** Of each vertex the set of its neighbours; of what is no vertex the empty set. */
        final int[] near = new int[MAX_VERTICES];

        private final int[] turned = new int[MAX_VERTICES];

        void restart(int n) {
            size = n;
            Arrays.fill(near, 0);
        }

        boolean isVertex(int v) {
            return v >= 0 && v < size;
        }

        int all() {
            return firstOnes(size);
        }

        boolean joined(int a, int b) {
            return contains(near[a], b);
        }

        void flip(int a, int b) {
            near[a] ^= 1 << b;
            near[b] ^= 1 << a;
        }

        int degreeOf(int v) {
            return Integer.bitCount(near[v]);
        }

        int edges() {
            int ends = 0;
            for (int v = 0; v < size; v++) {
                ends += degreeOf(v);
            }
            return ends / 2;
        }

        int greatestDegree() {
            int greatest = 0;
            for (int v = 0; v < size; v++) {
                greatest = Math.max(greatest, degreeOf(v));
            }
            return greatest;
        }

        void drawEdges(int seed, int part) {
            Arrays.fill(near, 0);
            int x = seed;
            for (int a = 0; a < size; a++) {
                for (int b = a + 1; b < size; b++) {
                    x = 1103515245 * x + 12345;
                    if ((x >>> 16) % 100 < part) {
                        flip(a, b);
                    }
                }
            }
        }

        boolean sharesDivisor(int factor) {
            for (int d = 2; d <= factor; d++) {
                if (factor % d == 0 && size % d == 0) {
                    return true;
                }
            }
            return false;
        }

        void renumber(int factor, int shift) {
            if (size <= 0) {
                return;
            }
            for (int v = 0; v < size; v++) {
                int image = 0;
                for (int w = 0; w < size; w++) {
                    if (joined(v, w)) {
                        image |= 1 << (w * factor + shift) % size;
                    }
                }
                turned[(v * factor + shift) % size] = image;
            }
            System.arraycopy(turned, 0, near, 0, size);
        }

        int greedyClique() {
            int taken = 0;
            int open = all();
            for (int step = 0; step < size && open != 0; step++) {
                int v = widest(open);
                taken |= 1 << v;
                open &= near[v];
            }
            return taken;
        }

        /** The least vertex of the greatest degree in a set that isn't empty. */
        private int widest(int set) {
            int widest = 0;
            int greatest = NONE;
            for (int v = 0; v < size; v++) {
                if (contains(set, v) && degreeOf(v) > greatest) {
                    widest = v;
                    greatest = degreeOf(v);
                }
            }
            return widest;
        }
    }

    /** A colouring that grows and shrinks by one vertex; its colours are always 0 .. standing - 1. */
    private static final class Colouring {
        private final Graph net;
        final int[] of = new int[MAX_VERTICES];

        /** Of each vertex the set of the colours that its neighbours have. */
        private final int[] seen = new int[MAX_VERTICES];

        /** Of each colour the set of the vertices that have it. */
        private final int[] bearers = new int[MAX_VERTICES];

        /** The set of the vertices without a colour. */
        int bare = 0;

        int standing = 0;

        Colouring(Graph net) {
            this.net = net;
        }

        void wipe() {
            Arrays.fill(of, NONE);
            Arrays.fill(seen, 0);
            Arrays.fill(bearers, 0);
            bare = net.all();
            standing = 0;
        }

        void give(int v, int c) {
            if (bearers[c] == 0) {
                standing++;
            }
            of[v] = c;
            bearers[c] |= 1 << v;
            bare &= ~(1 << v);
            for (int w = 0; w < net.size; w++) {
                if (contains(net.near[v], w)) {
                    seen[w] |= 1 << c;
                }
            }
        }

        void strip(int v, int c) {
            of[v] = NONE;
            bearers[c] &= ~(1 << v);
            bare |= 1 << v;
            for (int w = 0; w < net.size; w++) {
                if (contains(net.near[v], w) && (net.near[w] & bearers[c]) == 0) {
                    seen[w] &= ~(1 << c);
                }
            }
            if (bearers[c] == 0) {
                standing--;
            }
        }

        boolean blocked(int v, int c) {
            return contains(seen[v], c);
        }

        int leastNeighbourWith(int v, int c) {
            for (int w = 0; w < net.size; w++) {
                if (contains(net.near[v] & bearers[c], w)) {
                    return w;
                }
            }
            return NONE;
        }

        int freeWith(int v, int k) {
            return firstOnes(k) & ~seen[v];
        }

        /** CHOICE of the document; NONE if the colouring is whole. */
        int choice() {
            int chosen = NONE;
            int greatest = NONE;
            for (int v = 0; v < net.size; v++) {
                if (contains(bare, v)) {
                    int rank = rank(v, Integer.bitCount(net.near[v] & bare));
                    if (rank > greatest) {
                        chosen = v;
                        greatest = rank;
                    }
                }
            }
            return chosen;
        }

        /** Of a set of vertices without a colour, by saturation, then by degree, the first; NONE if it is empty. */
        int foremost(int set) {
            int foremost = NONE;
            int greatest = NONE;
            for (int v = 0; v < net.size; v++) {
                if (contains(set, v)) {
                    int rank = rank(v, net.degreeOf(v));
                    if (rank > greatest) {
                        foremost = v;
                        greatest = rank;
                    }
                }
            }
            return foremost;
        }

        /** Puts the saturation before a second number, which is below 30. */
        private int rank(int v, int second) {
            return Integer.bitCount(seen[v]) * MAX_VERTICES + second;
        }

        /** THE FIRST COLOURING of the document. */
        void fillGreedily() {
            wipe();
            for (int step = 0; step < net.size; step++) {
                int v = choice();
                if (v != NONE) {
                    give(v, leastUnseen(v));
                }
            }
        }

        /** A vertex has at most 29 neighbours, so that one of the 30 colours is always left. */
        private int leastUnseen(int v) {
            int c = 0;
            while (c < MAX_VERTICES - 1 && blocked(v, c)) {
                c++;
            }
            return c;
        }
    }

    private static final class Log {
        int size = 0;
        final int[] ops = new int[MAX_LINES];
        final int[] numbers = new int[MAX_LINES];

        boolean holds(int i) {
            return i >= 0 && i < size;
        }

        /** Whether there was room for the line. */
        boolean write(int op, int number) {
            if (size >= MAX_LINES) {
                return false;
            }
            ops[size] = op;
            numbers[size] = number;
            size++;
            return true;
        }

        int part(int i, int what) {
            if (!holds(i) || what < 0 || what > 1) {
                return NUMBER;
            }
            return what == 0 ? ops[i] : numbers[i];
        }

        void become(Log other) {
            size = other.size;
            System.arraycopy(other.ops, 0, ops, 0, size);
            System.arraycopy(other.numbers, 0, numbers, 0, size);
        }
    }

    /** SEARCH of the document. */
    private static final class Search {
        static final int BACK = 0;
        static final int FOUND = 1;
        static final int OVERFULL = 2;

        private final Graph net;
        private final Colouring colouring;
        private int k = 0;

        /** A log of its own, since a search that is refused must leave the told one as it was. */
        final Log log = new Log();

        int branches = 0;
        int closes = 0;

        Search(Graph net, Colouring colouring) {
            this.net = net;
            this.colouring = colouring;
        }

        /** What is FOUND stands in the colouring then. */
        int run(int colours) {
            k = colours;
            log.size = 0;
            branches = 0;
            closes = 0;
            colouring.wipe();
            return visit(0);
        }

        private int visit(int depth) {
            if (colouring.bare == 0) {
                return FOUND;
            }
            // Each level colours one vertex more, so a whole colouring comes before this depth.
            if (depth >= MAX_VERTICES) {
                return OVERFULL;
            }
            int tight = tightClique();
            if (tight == 0) {
                return branch(depth);
            }
            closes++;
            return write(CLOSE, tight);
        }

        /** The set that a CLOSE may name here; the empty one if the document's walk comes to none. */
        private int tightClique() {
            int taken = 0;
            int free = 0;
            int open = colouring.bare;
            for (int step = 1; step <= net.size; step++) {
                int v = colouring.foremost(open);
                if (v == NONE) {
                    return 0;
                }
                taken |= 1 << v;
                free |= colouring.freeWith(v, k);
                if (Integer.bitCount(free) < step) {
                    return taken;
                }
                open &= net.near[v];
            }
            return 0;
        }

        private int branch(int depth) {
            int v = colouring.choice();
            if (v == NONE || write(BRANCH, v) == OVERFULL) {
                return OVERFULL;
            }
            branches++;
            int standing = colouring.standing;
            for (int c = 0; c < k && c <= standing; c++) {
                int end = colouring.blocked(v, c)
                        ? write(BLOCK, colouring.leastNeighbourWith(v, c))
                        : attempt(v, c, depth);
                if (end != BACK) {
                    return end;
                }
            }
            return BACK;
        }

        private int attempt(int v, int c, int depth) {
            if (write(TRY, c) == OVERFULL) {
                return OVERFULL;
            }
            colouring.give(v, c);
            int end = visit(depth + 1);
            if (end == BACK) {
                colouring.strip(v, c);
            }
            return end;
        }

        private int write(int op, int number) {
            return log.write(op, number) ? BACK : OVERFULL;
        }
    }

    /** What solve() finds, as long as it stands. */
    private static final class Solution {
        static final int TALLIES = 5;

        private final Graph net;
        private final Colouring colouring;
        private final Search searcher;
        boolean stands = false;
        final int[] best = new int[MAX_VERTICES];
        private int colours = 0;
        final Log log = new Log();

        /** In the order of work(): searches, lines, branches, closes, searches that found something. */
        final int[] tallies = new int[TALLIES];

        Solution(Graph net, Colouring colouring, Search searcher) {
            this.net = net;
            this.colouring = colouring;
            this.searcher = searcher;
        }

        void forget() {
            stands = false;
        }

        int find() {
            forget();
            Arrays.fill(tallies, 0);
            colouring.fillGreedily();
            keepBest();
            int clique = net.greedyClique();
            int end = Search.FOUND;
            // Each search that finds something saves a colour at least, so there are never more rounds than vertices.
            for (int round = 0; round < MAX_VERTICES && colours > Integer.bitCount(clique); round++) {
                end = searcher.run(colours - 1);
                tally(end);
                if (end != Search.FOUND) {
                    break;
                }
                keepBest();
            }
            if (end == Search.OVERFULL) {
                return FULL;
            }
            keepProof(end, clique);
            stands = true;
            return colours;
        }

        private void keepProof(int end, int clique) {
            if (end == Search.BACK) {
                log.become(searcher.log);
                return;
            }
            log.size = 0;
            if (clique != 0) {
                log.write(CLOSE, clique);
            }
        }

        private void keepBest() {
            System.arraycopy(colouring.of, 0, best, 0, net.size);
            colours = colouring.standing;
        }

        private void tally(int end) {
            tallies[0]++;
            tallies[1] += searcher.log.size;
            tallies[2] += searcher.branches;
            tallies[3] += searcher.closes;
            if (end == Search.FOUND) {
                tallies[4]++;
            }
        }
    }

    /** Goes over a log with nothing but the graph and the forms that the document gives a PROOF. */
    private static final class Checker {
        private final Graph net;
        private final Colouring colouring;
        private final Log log;
        private int k = 0;

        /** The line that is looked at next; where a proof fails, it stays on the line that can't stand. */
        private int at = 0;

        Checker(Graph net, Colouring colouring, Log log) {
            this.net = net;
            this.colouring = colouring;
            this.log = log;
        }

        int wrongLine(int colours) {
            k = colours;
            at = 0;
            colouring.wipe();
            return proof(0) && at == log.size ? RIGHT : at;
        }

        private boolean proof(int depth) {
            // Each level colours one vertex more, and a branch needs one without a colour.
            if (!log.holds(at) || depth > MAX_VERTICES) {
                return false;
            }
            int number = log.numbers[at];
            switch (log.ops[at]) {
                case BRANCH:
                    return branch(number, depth);
                case CLOSE:
                    return stepOverIf(closes(number));
                default:
                    return false;
            }
        }

        private boolean branch(int v, int depth) {
            if (!stepOverIf(net.isVertex(v) && contains(colouring.bare, v))) {
                return false;
            }
            int standing = colouring.standing;
            for (int c = 0; c < k && c <= standing; c++) {
                boolean good = colouring.blocked(v, c) ? stepOverIf(blocks(v, c)) : attempt(v, c, depth);
                if (!good) {
                    return false;
                }
            }
            return true;
        }

        private boolean attempt(int v, int c, int depth) {
            if (!stepOverIf(log.holds(at) && log.ops[at] == TRY && log.numbers[at] == c)) {
                return false;
            }
            colouring.give(v, c);
            boolean good = proof(depth + 1);
            colouring.strip(v, c);
            return good;
        }

        private boolean blocks(int v, int c) {
            if (!log.holds(at) || log.ops[at] != BLOCK) {
                return false;
            }
            int w = log.numbers[at];
            return net.isVertex(w) && net.joined(v, w) && colouring.of[w] == c;
        }

        private boolean closes(int set) {
            if (set == 0 || (set & ~colouring.bare) != 0) {
                return false;
            }
            int free = 0;
            for (int v = 0; v < net.size; v++) {
                if (contains(set, v)) {
                    if ((set & ~net.near[v]) != 1 << v) {
                        return false;
                    }
                    free |= colouring.freeWith(v, k);
                }
            }
            return Integer.bitCount(free) < Integer.bitCount(set);
        }

        private boolean stepOverIf(boolean good) {
            if (good) {
                at++;
            }
            return good;
        }
    }

    /** The told colours of all 30 vertices that there could be. */
    private static final class ToldColours {
        private final Graph net;
        final int[] of = new int[MAX_VERTICES];

        ToldColours(Graph net) {
            this.net = net;
            Arrays.fill(of, NONE);
        }

        /** The set of the colours that the vertices of a set have. */
        int among(int set) {
            int colours = 0;
            for (int v = 0; v < net.size; v++) {
                if (contains(set, v) && of[v] != NONE) {
                    colours |= 1 << of[v];
                }
            }
            return colours;
        }

        int clashingEdges() {
            int clashing = 0;
            for (int a = 0; a < net.size; a++) {
                for (int b = a + 1; b < net.size; b++) {
                    if (net.joined(a, b) && of[a] != NONE && of[a] == of[b]) {
                        clashing++;
                    }
                }
            }
            return clashing;
        }

        int swapChain(int v, int c) {
            int own = of[v];
            int chain = reach(v, bearing(own) | bearing(c));
            for (int w = 0; w < net.size; w++) {
                if (contains(chain, w)) {
                    of[w] = of[w] == own ? c : own;
                }
            }
            return Integer.bitCount(chain);
        }

        private int bearing(int c) {
            int bearers = 0;
            for (int v = 0; v < net.size; v++) {
                if (of[v] == c) {
                    bearers |= 1 << v;
                }
            }
            return bearers;
        }

        /** All that can be come to from v over vertices of a set; no way needs more steps than there are vertices. */
        private int reach(int v, int set) {
            int reached = 1 << v;
            for (int step = 0; step < net.size; step++) {
                reached |= neighboursOf(reached) & set;
            }
            return reached;
        }

        private int neighboursOf(int set) {
            int neighbours = 0;
            for (int v = 0; v < net.size; v++) {
                if (contains(set, v)) {
                    neighbours |= net.near[v];
                }
            }
            return neighbours;
        }
    }
}
