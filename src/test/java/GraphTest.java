/** Promises 2 to 8: graph, edge, draw, turn, count, has, degree. */
public final class GraphTest {
    private static final int[] NO_NUMBERS = {-1, Integer.MIN_VALUE, Integer.MAX_VALUE, 31, 32};

    public static void main(String[] args) {
        graph();
        graphKeepsWhatIsTold();
        edge();
        edgeAndWhatIsSolved();
        draw();
        drawWithoutPairs();
        turn();
        turnRefuses();
        count();
        has();
        degree();
        Expect.end();
    }

    private static void graph() {
        ColourProof x = Graphs.complete(5);
        for (int n = 0; n <= 30; n++) {
            Expect.due("graph(" + n + ")", x.graph(n), n);
            Expect.due("count(0)", x.count(0), n);
            Expect.due("count(1)", x.count(1), 0);
            x.draw(n, 50);
        }
        int edges = x.count(1);
        for (int n : NO_NUMBERS) {
            Expect.due("graph(" + n + ")", x.graph(n), -1);
            Expect.due("count(0)", x.count(0), 30);
            Expect.due("count(1)", x.count(1), edges);
        }
        x = Graphs.complete(4);
        x.solve();
        Expect.due("graph(31) when solved", x.graph(31), -1);
        Expect.due("lines()", x.lines(), 1);
        Expect.due("graph(4) when solved", x.graph(4), 4);
        Expect.due("lines()", x.lines(), -2);
        Expect.due("solve()", x.solve(), 1);
        Expect.due("graph(4), as before", x.graph(4), 4);
        Expect.due("lines()", x.lines(), -2);
    }

    private static void graphKeepsWhatIsTold() {
        ColourProof x = Graphs.complete(4);
        x.tell(4, 15);
        x.paint(3, 7);
        x.graph(2);
        Expect.due("told(0, 1)", x.told(0, 1), 15);
        Expect.due("paint(3, 7)", x.paint(3, 7), 7);
        x.draw(1, 50);
        x.turn(1, 1);
        Expect.due("told(0, 1)", x.told(0, 1), 15);
        Expect.due("paint(3, 7)", x.paint(3, 7), 7);
    }

    private static void edge() {
        ColourProof x = Graphs.of(30);
        Expect.due("edge(0, 29, true)", x.edge(0, 29, true), 1);
        Expect.due("edge(29, 0, true)", x.edge(29, 0, true), 0);
        Expect.due("has(29, 0)", x.has(29, 0), true);
        Expect.due("edge(1, 2, false)", x.edge(1, 2, false), 0);
        Expect.due("edge(29, 0, false)", x.edge(29, 0, false), 1);
        Expect.due("edge(0, 29, false)", x.edge(0, 29, false), 0);
        Expect.due("count(1)", x.count(1), 0);
        Expect.due("edge(3, 3, true)", x.edge(3, 3, true), -1);
        Expect.due("edge(3, 3, false)", x.edge(3, 3, false), -1);
        x.graph(5);
        for (int bad : new int[] {-1, 5, 29, 30, 32, 37, Integer.MIN_VALUE, Integer.MAX_VALUE}) {
            for (boolean on : new boolean[] {true, false}) {
                Expect.due("edge(0, " + bad + ", " + on + ")", x.edge(0, bad, on), -1);
                Expect.due("edge(" + bad + ", 0, " + on + ")", x.edge(bad, 0, on), -1);
                Expect.due("edge(" + bad + ", " + bad + ", " + on + ")", x.edge(bad, bad, on), -1);
            }
        }
        Expect.due("count(1)", x.count(1), 0);
        x.graph(0);
        Expect.due("edge(0, 1, true) without vertices", x.edge(0, 1, true), -1);
    }

    private static void edgeAndWhatIsSolved() {
        ColourProof x = Graphs.of(3, 0, 1);
        x.solve();
        Expect.due("edge(0, 1, true)", x.edge(0, 1, true), 0);
        Expect.due("edge(0, 2, false)", x.edge(0, 2, false), 0);
        Expect.due("edge(0, 3, true)", x.edge(0, 3, true), -1);
        Expect.due("lines() stays", x.lines(), 1);
        Expect.due("edge(0, 1, false)", x.edge(0, 1, false), 1);
        Expect.due("lines() goes", x.lines(), -2);
        x.solve();
        Expect.due("edge(1, 2, true)", x.edge(1, 2, true), 1);
        Expect.due("colour(0) goes", x.colour(0), -2);
    }

    private static void draw() {
        int[] seeds = {0, 1, -1, 7, 12345, Integer.MIN_VALUE, Integer.MAX_VALUE};
        ColourProof x = Graphs.complete(30);
        for (int seed : seeds) {
            for (int part : new int[] {0, 1, 37, 50, 99, 100}) {
                String call = "draw(" + seed + ", " + part + ")";
                int got = x.draw(seed, part);
                int edges = 0;
                long state = seed;
                for (int a = 0; a < 30; a++) {
                    for (int b = a + 1; b < 30; b++) {
                        state = Math.floorMod(1103515245L * state + 12345L, 1L << 32);
                        boolean joined = (state >> 16) % 100 < part;
                        Expect.due(call + ": has(" + a + ", " + b + ")", x.has(a, b), joined);
                        Expect.due(call + ": has(" + b + ", " + a + ")", x.has(b, a), joined);
                        edges += joined ? 1 : 0;
                    }
                }
                Expect.due(call, got, edges);
                Expect.due(call + ": count(1)", x.count(1), edges);
            }
        }
        Expect.due("draw(0, 100)", x.draw(0, 100), 435);
        x.solve();
        for (int part : new int[] {-1, 101, Integer.MIN_VALUE, Integer.MAX_VALUE}) {
            Expect.due("draw(0, " + part + ")", x.draw(0, part), -1);
            Expect.due("count(1)", x.count(1), 435);
            Expect.due("lines()", x.lines(), 1);
        }
        Expect.due("draw(0, 100), as before", x.draw(0, 100), 435);
        Expect.due("lines()", x.lines(), -2);
        Expect.due("draw(0, 0)", x.draw(0, 0), 0);
    }

    private static void drawWithoutPairs() {
        ColourProof x = new ColourProof();
        for (int n = 0; n <= 1; n++) {
            x.graph(n);
            x.solve();
            Expect.due("draw(5, 101) of " + n, x.draw(5, 101), -1);
            Expect.due("lines()", x.lines(), n);
            Expect.due("draw(5, 100) of " + n, x.draw(5, 100), 0);
            Expect.due("lines()", x.lines(), -2);
        }
    }

    private static void turn() {
        ColourProof x = Graphs.of(5, 0, 1, 1, 2, 3, 4);
        Expect.due("turn(2, 3)", x.turn(2, 3), 1);
        // 0 1 2 3 4 become 3 0 2 4 1
        Expect.due("has(3, 0)", x.has(3, 0), true);
        Expect.due("has(0, 2)", x.has(0, 2), true);
        Expect.due("has(4, 1)", x.has(4, 1), true);
        Expect.due("count(1)", x.count(1), 3);
        x.solve();
        Expect.due("turn(1, 0), as before", x.turn(1, 0), 1);
        Expect.due("has(4, 1)", x.has(4, 1), true);
        Expect.due("lines()", x.lines(), -2);
        Expect.due("turn(27, 0)", x.turn(27, 0), 1);
        // 0 1 2 3 4 become 0 2 4 1 3
        Expect.due("has(1, 0)", x.has(1, 0), true);
        Expect.due("has(0, 4)", x.has(0, 4), true);
        Expect.due("has(3, 2)", x.has(3, 2), true);
        Expect.due("count(1)", x.count(1), 3);
        for (int n = 1; n <= 30; n++) {
            turnsLikeTheRule(n);
        }
    }

    private static void turnsLikeTheRule(int n) {
        for (int factor = 1; factor <= 30; factor++) {
            int shift = (7 * factor + 3) % n;
            ColourProof old = Graphs.drawn(n, n + factor, 40);
            ColourProof x = Graphs.drawn(n, n + factor, 40);
            boolean coprime = java.math.BigInteger.valueOf(n).gcd(java.math.BigInteger.valueOf(factor)).intValue() == 1;
            String call = "graph(" + n + "), turn(" + factor + ", " + shift + ")";
            Expect.due(call, x.turn(factor, shift), coprime ? 1 : -1);
            boolean same = true;
            for (int a = 0; a < n; a++) {
                for (int b = 0; b < n; b++) {
                    int c = coprime ? (a * factor + shift) % n : a;
                    int d = coprime ? (b * factor + shift) % n : b;
                    same &= old.has(a, b) == x.has(c, d);
                }
            }
            Expect.due(call + " turns each edge", same, true);
        }
    }

    private static void turnRefuses() {
        ColourProof x = new ColourProof();
        Expect.due("turn(1, 0) without vertices", x.turn(1, 0), -1);
        x = Graphs.of(6, 0, 1);
        x.solve();
        int[][] bad = {{2, 0}, {3, 0}, {6, 0}, {9, 1}, {30, 5}, {0, 0}, {-1, 0}, {31, 0}, {1, -1}, {1, 6},
            {-5, 0}, {35, 0}, {Integer.MIN_VALUE, 0}, {Integer.MAX_VALUE, 0}, {1, Integer.MIN_VALUE},
            {1, Integer.MAX_VALUE}};
        for (int[] call : bad) {
            Expect.due("turn(" + call[0] + ", " + call[1] + ")", x.turn(call[0], call[1]), -1);
        }
        Expect.due("has(0, 1)", x.has(0, 1), true);
        Expect.due("count(1)", x.count(1), 1);
        Expect.due("lines()", x.lines(), 1);
        Expect.due("turn(29, 5)", x.turn(29, 5), 1);
        x.graph(1);
        Expect.due("turn(30, 0) of one vertex", x.turn(30, 0), 1);
        Expect.due("turn(1, 1) of one vertex", x.turn(1, 1), -1);
    }

    private static void count() {
        ColourProof x = Graphs.of(6, 0, 1, 0, 2, 0, 3, 4, 5);
        Expect.due("count(0)", x.count(0), 6);
        Expect.due("count(1)", x.count(1), 4);
        Expect.due("count(2)", x.count(2), 3);
        for (int what : new int[] {-1, 3, 4, Integer.MIN_VALUE, Integer.MAX_VALUE}) {
            Expect.due("count(" + what + ")", x.count(what), -1);
        }
        x = Graphs.complete(30);
        Expect.due("count(1) of 30", x.count(1), 435);
        Expect.due("count(2) of 30", x.count(2), 29);
        x.graph(0);
        Expect.due("count(2) without vertices", x.count(2), 0);
    }

    private static void has() {
        ColourProof x = Graphs.of(4, 0, 3);
        Expect.due("has(0, 3)", x.has(0, 3), true);
        Expect.due("has(3, 0)", x.has(3, 0), true);
        Expect.due("has(0, 1)", x.has(0, 1), false);
        Expect.due("has(2, 2)", x.has(2, 2), false);
        for (int bad : new int[] {-1, 4, 30, 32, 35, 64, Integer.MIN_VALUE, Integer.MAX_VALUE}) {
            Expect.due("has(0, " + bad + ")", x.has(0, bad), false);
            Expect.due("has(" + bad + ", 0)", x.has(bad, 0), false);
            Expect.due("has(" + bad + ", " + bad + ")", x.has(bad, bad), false);
        }
        x = Graphs.complete(30);
        x.graph(3);
        x.graph(30);
        Expect.due("has(28, 29) of a new graph", x.has(28, 29), false);
    }

    private static void degree() {
        ColourProof x = Graphs.of(5, 0, 1, 0, 2, 2, 3);
        int[] degrees = {2, 1, 2, 1, 0};
        for (int v = 0; v < 5; v++) {
            Expect.due("degree(" + v + ")", x.degree(v), degrees[v]);
        }
        for (int bad : new int[] {-1, 5, 29, 30, Integer.MIN_VALUE, Integer.MAX_VALUE}) {
            Expect.due("degree(" + bad + ")", x.degree(bad), -1);
        }
        Expect.due("degree(29) of 30", Graphs.complete(30).degree(29), 29);
    }
}
