/** Promises 9 to 16: solve, colour, clique, first, lines, line, work, search. */
public final class SolvingTest {
    /** The log that the ring of five has for two colours, written by hand from the document. */
    private static final int[][] RING_OF_FIVE = {
        {1, 0}, {3, 0}, {1, 1}, {2, 0}, {3, 1}, {1, 2}, {3, 0}, {4, 24}, {2, 1}};

    public static void main(String[] args) {
        ringOfFive();
        knownNumbers();
        numbersByTrial();
        withoutSearch();
        whatIsSolved();
        clique();
        first();
        line();
        work();
        fullAndNot();
        search();
        searchIsFull();
        searchKeepsWhatIsSolved();
        Expect.end();
    }

    private static void ringOfFive() {
        ColourProof x = Graphs.ring(5);
        Expect.due("solve()", x.solve(), 3);
        Expect.due("lines()", x.lines(), RING_OF_FIVE.length);
        for (int i = 0; i < RING_OF_FIVE.length; i++) {
            Expect.due("line(" + i + ", 0)", x.line(i, 0), RING_OF_FIVE[i][0]);
            Expect.due("line(" + i + ", 1)", x.line(i, 1), RING_OF_FIVE[i][1]);
        }
        int[] colours = {0, 1, 0, 1, 2};
        for (int v = 0; v < 5; v++) {
            Expect.due("colour(" + v + ")", x.colour(v), colours[v]);
        }
        int[] work = {1, 9, 3, 1, 0};
        for (int what = 0; what < 5; what++) {
            Expect.due("work(" + what + ")", x.work(what), work[what]);
        }
    }

    private static void knownNumbers() {
        due("no edges", Graphs.of(30), 1);
        due("ring of 4", Graphs.ring(4), 2);
        due("ring of 29", Graphs.ring(29), 3);
        due("ring of 30", Graphs.ring(30), 2);
        due("all edges of 30", Graphs.complete(30), 30);
        due("Groetzsch's graph", Graphs.groetzsch(), 4);
        ColourProof wheel = Graphs.of(8);
        for (int v = 0; v < 7; v++) {
            wheel.edge(v, (v + 1) % 7, true);
            wheel.edge(v, 7, true);
        }
        due("wheel of 7", wheel, 4);
        ColourProof petersen = Graphs.of(10, 0, 1, 1, 2, 2, 3, 3, 4, 4, 0, 0, 5, 1, 6, 2, 7, 3, 8, 4, 9,
                5, 7, 7, 9, 9, 6, 6, 8, 8, 5);
        due("Petersen's graph", petersen, 3);
    }

    /** Solves, and sees that the colouring is good and that the log proves that there is none with fewer colours. */
    private static void due(String name, ColourProof x, int colours) {
        Expect.due(name + ": solve()", x.solve(), colours);
        int n = x.count(0);
        int greatest = -1;
        boolean good = true;
        for (int a = 0; a < n; a++) {
            greatest = Math.max(greatest, x.colour(a));
            good &= x.colour(a) >= 0;
            for (int b = 0; b < n; b++) {
                good &= !x.has(a, b) || x.colour(a) != x.colour(b);
            }
        }
        Expect.due(name + ": a whole colouring", good, true);
        Expect.due(name + ": its greatest colour", greatest, colours - 1);
        Expect.due(name + ": take()", x.take(), x.lines());
        if (colours > 0) {
            Expect.due(name + ": check()", x.check(colours - 1), -1);
            Expect.due(name + ": check() with the colours that do", x.check(colours) >= 0, true);
        }
    }

    private static void numbersByTrial() {
        for (int n = 0; n <= 8; n++) {
            for (int seed = 0; seed < 60; seed++) {
                ColourProof x = Graphs.drawn(n, seed, 10 + seed % 9 * 10);
                due("n " + n + " seed " + seed, x, fewest(x, n));
            }
        }
    }

    private static int fewest(ColourProof x, int n) {
        for (int k = 0; k <= n; k++) {
            if (colourable(x, new int[n], 0, k)) {
                return k;
            }
        }
        return -1;
    }

    private static boolean colourable(ColourProof x, int[] colours, int v, int k) {
        if (v == colours.length) {
            return true;
        }
        for (int c = 0; c < k; c++) {
            boolean free = true;
            for (int w = 0; w < v; w++) {
                free &= !x.has(v, w) || colours[w] != c;
            }
            colours[v] = c;
            if (free && colourable(x, colours, v + 1, k)) {
                return true;
            }
        }
        return false;
    }

    private static void withoutSearch() {
        ColourProof x = new ColourProof();
        Expect.due("solve() without vertices", x.solve(), 0);
        Expect.due("lines()", x.lines(), 0);
        Expect.due("line(0, 0)", x.line(0, 0), -1);
        for (int what = 0; what < 5; what++) {
            Expect.due("work(" + what + ")", x.work(what), 0);
        }
        Expect.due("colour(0)", x.colour(0), -1);
        x = Graphs.complete(30);
        Expect.due("solve() of all edges", x.solve(), 30);
        Expect.due("lines()", x.lines(), 1);
        Expect.due("line(0, 0)", x.line(0, 0), 4);
        Expect.due("line(0, 1)", x.line(0, 1), (1 << 30) - 1);
        for (int v = 0; v < 30; v++) {
            Expect.due("colour(" + v + ")", x.colour(v), v);
        }
        for (int what = 0; what < 5; what++) {
            Expect.due("work(" + what + ")", x.work(what), 0);
        }
    }

    private static void whatIsSolved() {
        ColourProof x = Graphs.of(4, 0, 1);
        Expect.due("colour(0) unsolved", x.colour(0), -2);
        Expect.due("colour(4) unsolved", x.colour(4), -1);
        Expect.due("colour(-1) unsolved", x.colour(-1), -1);
        Expect.due("solve()", x.solve(), 2);
        for (int bad : new int[] {-1, 4, 29, 30, Integer.MIN_VALUE, Integer.MAX_VALUE}) {
            Expect.due("colour(" + bad + ")", x.colour(bad), -1);
        }
        x.tell(1, 0);
        x.alter(0, 1, 1);
        x.cut(0);
        x.check(1);
        x.paint(0, 3);
        x.copy();
        x.chain(0, 5);
        x.take();
        x.clique();
        x.first();
        Expect.due("colour(0) stays", x.colour(0), 0);
        Expect.due("colour(1) stays", x.colour(1), 1);
        Expect.due("lines() stays", x.lines(), 1);
        Expect.due("solve() anew", x.solve(), 2);
        Expect.due("lines()", x.lines(), 1);
    }

    private static void clique() {
        Expect.due("clique() without vertices", new ColourProof().clique(), 0);
        Expect.due("clique() without edges", Graphs.of(3).clique(), 1);
        Expect.due("clique() of all edges", Graphs.complete(30).clique(), (1 << 30) - 1);
        // 3 has the greatest degree, so that the triangle of 0, 1 and 2 is passed by.
        ColourProof x = Graphs.of(7, 0, 1, 1, 2, 0, 2, 3, 4, 3, 5, 3, 6);
        Expect.due("clique()", x.clique(), 8 + 16);
        x = Graphs.of(7, 0, 1, 1, 2, 0, 2, 3, 4, 3, 5, 3, 6, 4, 5);
        Expect.due("clique() by degree", x.clique(), 8 + 16 + 32);
        x.edge(3, 4, false);
        // degrees 2 2 2 2 1 2 1: now 0, 1, 2
        Expect.due("clique() of the graph as it is", x.clique(), 7);
        x = Graphs.of(4, 0, 1, 2, 3);
        Expect.due("clique() takes the least first", x.clique(), 3);
    }

    private static void first() {
        Expect.due("first() without vertices", new ColourProof().first(), 0);
        Expect.due("first() without edges", Graphs.of(30).first(), 1);
        Expect.due("first() of all edges", Graphs.complete(30).first(), 30);
        Expect.due("first() of the ring of five", Graphs.ring(5).first(), 3);
        ColourProof x = Graphs.drawn(30, 2944, 40);
        Expect.due("first() that is not the best", x.first(), 8);
        x.graph(2);
        Expect.due("first() of the graph as it is", x.first(), 1);
    }

    private static void line() {
        ColourProof x = Graphs.ring(5);
        Expect.due("line(0, 0) unsolved", x.line(0, 0), -2);
        Expect.due("line(-1, 7) unsolved", x.line(-1, 7), -2);
        Expect.due("lines() unsolved", x.lines(), -2);
        x.solve();
        for (int bad : new int[] {-1, 9, 3000, Integer.MIN_VALUE, Integer.MAX_VALUE}) {
            Expect.due("line(" + bad + ", 0)", x.line(bad, 0), -1);
            Expect.due("line(" + bad + ", 1)", x.line(bad, 1), -1);
        }
        for (int bad : new int[] {-1, 2, Integer.MIN_VALUE, Integer.MAX_VALUE}) {
            Expect.due("line(0, " + bad + ")", x.line(0, bad), -1);
        }
    }

    private static void work() {
        ColourProof x = Graphs.ring(5);
        Expect.due("work(0) unsolved", x.work(0), -2);
        Expect.due("work(5) unsolved", x.work(5), -2);
        x.solve();
        for (int bad : new int[] {-1, 5, Integer.MIN_VALUE, Integer.MAX_VALUE}) {
            Expect.due("work(" + bad + ")", x.work(bad), -1);
        }
        // Two searches whose lines together are more than 3,000, but neither's alone.
        x = Graphs.drawn(30, 19666, 38);
        Expect.due("solve()", x.solve(), 6);
        int[] work = {2, 3077, 506, 90, 1};
        for (int what = 0; what < 5; what++) {
            Expect.due("work(" + what + ")", x.work(what), work[what]);
        }
        Expect.due("lines()", x.lines(), 2848);
        x.solve();
        Expect.due("work(1) of solve() anew", x.work(1), 3077);
    }

    private static void fullAndNot() {
        ColourProof x = Graphs.justFits();
        Expect.due("solve() with 3,000 lines", x.solve(), 7);
        Expect.due("lines()", x.lines(), 3000);
        Expect.due("take()", x.take(), 3000);
        Expect.due("check(6)", x.check(6), -1);
        Expect.due("line(2999, 0)", x.line(2999, 0), x.told(2999, 0));
        Expect.due("line(3000, 0)", x.line(3000, 0), -1);
        x = Graphs.justTooLong();
        x.tell(2, 5);
        x.paint(0, 9);
        full("3,001 lines", x);
        Expect.due("told(0, 1)", x.told(0, 1), 5);
        Expect.due("told(1, 1)", x.told(1, 1), -1);
        Expect.due("paint(0, 9)", x.paint(0, 9), 9);
        full("found, then full", Graphs.drawn(30, 2944, 40));
        full("full before it is found", Graphs.drawn(30, 2547, 40));
        x.graph(1);
        Expect.due("solve() after FULL", x.solve(), 1);
        Expect.due("lines()", x.lines(), 1);
    }

    private static void full(String name, ColourProof x) {
        int edges = x.count(1);
        Expect.due(name + ": solve()", x.solve(), -3);
        Expect.due(name + ": colour(0)", x.colour(0), -2);
        Expect.due(name + ": lines()", x.lines(), -2);
        Expect.due(name + ": line(0, 0)", x.line(0, 0), -2);
        Expect.due(name + ": work(0)", x.work(0), -2);
        Expect.due(name + ": take()", x.take(), -2);
        Expect.due(name + ": copy()", x.copy(), -2);
        Expect.due(name + ": count(1)", x.count(1), edges);
    }

    private static void search() {
        ColourProof x = new ColourProof();
        x.tell(1, 0);
        Expect.due("search(0) without vertices", x.search(0), 1);
        Expect.due("told(0, 0)", x.told(0, 0), -1);
        x = Graphs.ring(5);
        x.tell(4, 1);
        for (int bad : new int[] {-1, 31, Integer.MIN_VALUE, Integer.MAX_VALUE}) {
            Expect.due("search(" + bad + ")", x.search(bad), -1);
        }
        Expect.due("told(0, 0) as before", x.told(0, 0), 4);
        Expect.due("search(2)", x.search(2), 0);
        for (int i = 0; i < RING_OF_FIVE.length; i++) {
            Expect.due("told(" + i + ", 0)", x.told(i, 0), RING_OF_FIVE[i][0]);
            Expect.due("told(" + i + ", 1)", x.told(i, 1), RING_OF_FIVE[i][1]);
        }
        Expect.due("told(9, 0)", x.told(9, 0), -1);
        // With three colours each is found at once; the lines that were written till then are kept.
        int[][] found = {{1, 0}, {3, 0}, {1, 1}, {2, 0}, {3, 1}, {1, 2}, {3, 0}, {1, 3}, {2, 2}, {3, 1},
            {1, 4}, {2, 0}, {2, 3}, {3, 2}};
        Expect.due("search(3)", x.search(3), 1);
        for (int i = 0; i < found.length; i++) {
            Expect.due("told(" + i + ", 0)", x.told(i, 0), found[i][0]);
            Expect.due("told(" + i + ", 1)", x.told(i, 1), found[i][1]);
        }
        Expect.due("told(14, 0)", x.told(14, 0), -1);
        Expect.due("search(0)", x.search(0), 0);
        Expect.due("told(0, 0)", x.told(0, 0), 4);
        Expect.due("told(0, 1)", x.told(0, 1), 1);
        Expect.due("told(1, 0)", x.told(1, 0), -1);
        Expect.due("search(30)", x.search(30), 1);
        x = Graphs.complete(30);
        Expect.due("search(30) of all edges", x.search(30), 1);
        Expect.due("search(29) of all edges", x.search(29), 0);
        Expect.due("told(0, 1)", x.told(0, 1), (1 << 30) - 1);
        Expect.due("search(28) closes as soon as it can", x.search(28), 0);
        Expect.due("told(0, 1)", x.told(0, 1), (1 << 29) - 1);
    }

    private static void searchIsFull() {
        ColourProof x = Graphs.justTooLong();
        x.tell(3, 7);
        Expect.due("search(6) of 3,001 lines", x.search(6), -3);
        Expect.due("told(0, 0)", x.told(0, 0), 3);
        Expect.due("told(0, 1)", x.told(0, 1), 7);
        Expect.due("cut(2)", x.cut(2), -1);
        Expect.due("search(31)", x.search(31), -1);
        x = Graphs.justFits();
        Expect.due("search(6) of 3,000 lines", x.search(6), 0);
        Expect.due("cut(3000)", x.cut(3000), 3000);
        Expect.due("check(6)", x.check(6), -1);
        Expect.due("tell(1, 0) behind them", x.tell(1, 0), -3);
    }

    private static void searchKeepsWhatIsSolved() {
        ColourProof x = Graphs.ring(5);
        Expect.due("search(2) unsolved", x.search(2), 0);
        Expect.due("lines() unsolved", x.lines(), -2);
        x.solve();
        x.search(3);
        x.search(0);
        Expect.due("lines()", x.lines(), RING_OF_FIVE.length);
        Expect.due("line(7, 1)", x.line(7, 1), 24);
        Expect.due("colour(4)", x.colour(4), 2);
        Expect.due("work(1)", x.work(1), 9);
        x.tell(1, 1);
        Expect.due("lines() after tell", x.lines(), 9);
        ColourProof y = Graphs.justFits();
        y.solve();
        for (int k = 0; k <= 30; k++) {
            Expect.due("search(" + k + ")", y.search(k), k < 7 ? 0 : 1);
        }
        Expect.due("lines() stays", y.lines(), 3000);
        y.take();
        Expect.due("check(6)", y.check(6), -1);
    }
}
