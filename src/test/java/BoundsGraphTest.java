import java.math.BigInteger;

/** Promises 1 to 8: each sentence of theirs that names a boundary case has a test here. */
public final class BoundsGraphTest {
    private static final int MIN = Integer.MIN_VALUE;
    private static final int MAX = Integer.MAX_VALUE;

    public static void main(String[] args) {
        newHasNoVertices();
        newHasNothingTold();
        newHasNothingSolved();
        newHasNoToldColours();
        graphOfEachSize();
        graphHasNoEdges();
        graphRefuses();
        edgeComesAndGoes();
        edgeThatChangesNothing();
        edgeRefusesNoVertex();
        edgeRefusesTheSame();
        drawBelowPart();
        drawWraps();
        drawWithoutSign();
        drawGoesOverPairs();
        drawAnew();
        drawPartAtItsEnds();
        turnWrapsByN();
        turnAtItsEnds();
        turnRefusesWithoutVertices();
        turnRefusesShift();
        turnRefusesFactor();
        turnRefusesCommonDivisors();
        turnAsBefore();
        countOfEach();
        countWithoutVertices();
        countOfAnother();
        hasOfNoVertex();
        degreeAtItsEnds();
        Expect.end();
    }

    private static void newHasNoVertices() {
        Expect.by("Promise 1: No vertices");
        ColourProof x = new ColourProof();
        for (int what = 0; what <= 2; what++) {
            Expect.due("count(" + what + ")", x.count(what), 0);
        }
        Expect.due("degree(0)", x.degree(0), -1);
        Expect.due("edge(0, 1, true)", x.edge(0, 1, true), -1);
        Expect.due("has(0, 1)", x.has(0, 1), false);
        Expect.due("saturation(0)", x.saturation(0), -1);
        Expect.due("turn(1, 0)", x.turn(1, 0), -1);
        Expect.due("draw(1, 100)", x.draw(1, 100), 0);
    }

    private static void newHasNothingTold() {
        Expect.by("Promise 1: nothing told");
        ColourProof x = new ColourProof();
        Expect.due("told(0, 0)", x.told(0, 0), -1);
        Expect.due("alter(0, 1, 0)", x.alter(0, 1, 0), -1);
        Expect.due("cut(1)", x.cut(1), -1);
        Expect.due("cut(0)", x.cut(0), 0);
        Expect.due("check(0)", x.check(0), 0);
        Expect.due("tell(1, 0)", x.tell(1, 0), 1);
    }

    private static void newHasNothingSolved() {
        Expect.by("Promise 1: nothing solved");
        ColourProof x = new ColourProof();
        Expect.due("lines()", x.lines(), -2);
        Expect.due("line(0, 0)", x.line(0, 0), -2);
        Expect.due("work(0)", x.work(0), -2);
        Expect.due("take()", x.take(), -2);
        Expect.due("copy()", x.copy(), -2);
    }

    private static void newHasNoToldColours() {
        Expect.by("Promise 1: all in the told colours is -1");
        ColourProof x = new ColourProof();
        Expect.due("used()", x.used(), 0);
        x.graph(30);
        Expect.due("used() of 30", x.used(), 0);
        for (int v = 0; v < 30; v++) {
            Expect.due("paint(" + v + ", 0)", x.paint(v, 0), -1);
        }
    }

    private static void graphOfEachSize() {
        Expect.by("graph: The graph has n vertices: n");
        ColourProof x = new ColourProof();
        for (int n = 0; n <= 30; n++) {
            Expect.due("graph(" + n + ")", x.graph(n), n);
            Expect.due("count(0)", x.count(0), n);
        }
        for (int n = 30; n >= 0; n--) {
            Expect.due("graph(" + n + ")", x.graph(n), n);
            Expect.due("count(0)", x.count(0), n);
        }
    }

    private static void graphHasNoEdges() {
        Expect.by("graph: and no EDGES");
        for (int n : new int[] {0, 1, 2, 29, 30}) {
            ColourProof x = Graphs.complete(30);
            x.graph(n);
            Expect.due("count(1) of " + n, x.count(1), 0);
            Expect.due("count(2) of " + n, x.count(2), 0);
            // What vertices had that went for a while does not come again with them.
            x.graph(30);
            Expect.due("count(1) of 30 behind " + n, x.count(1), 0);
            Expect.due("degree(29)", x.degree(29), 0);
            Expect.due("has(28, 29)", x.has(28, 29), false);
        }
    }

    private static void graphRefuses() {
        Expect.by("graph: NUMBER: n isn't 0 .. 30");
        for (int bad : new int[] {-1, 31, 32, MIN, MAX}) {
            Calls.changesNothing("graph(" + bad + ")", Graphs::solved, x -> x.graph(bad), -1);
            Calls.changesNothing("graph(" + bad + ") of 30", () -> Graphs.complete(30), x -> x.graph(bad), -1);
            Calls.changesNothing("graph(" + bad + ") of none", Graphs::solvedEmpty, x -> x.graph(bad), -1);
        }
    }

    private static void edgeComesAndGoes() {
        Expect.by("edge: An EDGE between a and b comes (or goes, if on is false): 1 if that changes something");
        int[][] pairs = {{0, 1}, {1, 0}, {0, 29}, {29, 0}, {28, 29}, {29, 28}};
        for (int[] pair : pairs) {
            String name = pair[0] + ", " + pair[1];
            ColourProof x = Graphs.of(30);
            Expect.due("edge(" + name + ", true)", x.edge(pair[0], pair[1], true), 1);
            Expect.due("has(" + name + ")", x.has(pair[0], pair[1]), true);
            Expect.due("count(1)", x.count(1), 1);
            Expect.due("edge the other way round, false", x.edge(pair[1], pair[0], false), 1);
            Expect.due("has(" + name + ")", x.has(pair[0], pair[1]), false);
            Expect.due("count(1)", x.count(1), 0);
            // Of a full graph this one goes alone.
            x = Graphs.complete(30);
            Expect.due("edge(" + name + ", false)", x.edge(pair[0], pair[1], false), 1);
            Expect.due("has(" + name + ")", x.has(pair[0], pair[1]), false);
            Expect.due("count(1)", x.count(1), 434);
        }
    }

    private static void edgeThatChangesNothing() {
        Expect.by("edge: else 0 (then nothing that was solved goes)");
        Calls.changesNothing("edge(0, 1, true)", Graphs::solved, x -> x.edge(0, 1, true), 0);
        Calls.changesNothing("edge(1, 0, true)", Graphs::solved, x -> x.edge(1, 0, true), 0);
        Calls.changesNothing("edge(4, 0, true)", Graphs::solved, x -> x.edge(4, 0, true), 0);
        Calls.changesNothing("edge(0, 2, false)", Graphs::solved, x -> x.edge(0, 2, false), 0);
        Calls.changesNothing("edge(2, 0, false)", Graphs::solved, x -> x.edge(2, 0, false), 0);
    }

    private static void edgeRefusesNoVertex() {
        Expect.by("edge: NUMBER: a or b is no vertex");
        for (boolean on : new boolean[] {true, false}) {
            for (int bad : new int[] {-1, 5, 6, 29, 30, 32, 33, -31, MIN, MAX}) {
                Calls.changesNothing("edge(" + bad + ", 1, " + on + ")", Graphs::solved, x -> x.edge(bad, 1, on), -1);
                Calls.changesNothing("edge(1, " + bad + ", " + on + ")", Graphs::solved, x -> x.edge(1, bad, on), -1);
            }
            Calls.changesNothing("edge(0, 0, ..) without vertices", Graphs::solvedEmpty, x -> x.edge(0, 0, on), -1);
            Calls.changesNothing("edge(0, 1, ..) without vertices", Graphs::solvedEmpty, x -> x.edge(0, 1, on), -1);
            Calls.changesNothing("edge(0, 1, ..) of one", () -> Graphs.of(1), x -> x.edge(0, 1, on), -1);
            Calls.changesNothing("edge(1, 0, ..) of one", () -> Graphs.of(1), x -> x.edge(1, 0, on), -1);
            Calls.changesNothing("edge(0, 30, ..) of 30", () -> Graphs.complete(30), x -> x.edge(0, 30, on), -1);
            Calls.changesNothing("edge(30, 0, ..) of 30", () -> Graphs.complete(30), x -> x.edge(30, 0, on), -1);
        }
        Expect.due("edge(3, 4, true) of 5", Graphs.of(5).edge(3, 4, true), 1);
        Expect.due("edge(4, 3, true) of 5", Graphs.of(5).edge(4, 3, true), 1);
    }

    private static void edgeRefusesTheSame() {
        Expect.by("edge: NUMBER: .. or they are the same");
        for (int v = 0; v < 5; v++) {
            int a = v;
            Calls.changesNothing("edge(" + a + ", " + a + ", true)", Graphs::solved, x -> x.edge(a, a, true), -1);
            Calls.changesNothing("edge(" + a + ", " + a + ", false)", Graphs::solved, x -> x.edge(a, a, false), -1);
        }
        Expect.due("edge(29, 29, true)", Graphs.of(30).edge(29, 29, true), -1);
        Expect.due("edge(-1, -1, true)", Graphs.of(30).edge(-1, -1, true), -1);
    }

    /** Seeds that lead the first pair to an x that is known, and what its upper 16 bits leave by 100. */
    private static void drawBelowPart(String x, int seed, int rest) {
        ColourProof two = Graphs.of(2);
        String name = "x = " + x + ": ";
        Expect.due(name + "draw(" + seed + ", " + rest + ")", two.draw(seed, rest), 0);
        Expect.due(name + "has(0, 1)", two.has(0, 1), false);
        Expect.due(name + "draw(" + seed + ", " + (rest + 1) + ")", two.draw(seed, rest + 1), 1);
        Expect.due(name + "has(0, 1)", two.has(0, 1), true);
    }

    private static void drawBelowPart() {
        Expect.by("draw: there is an EDGE between them just if the rest of .. by 100 is below part");
        drawBelowPart("12345", 0, 0);
        drawBelowPart("0x0000ffff", -115164386, 0);
        drawBelowPart("0x00010000", -404969853, 1);
        drawBelowPart("0x00630000", 75933315, 99);
        drawBelowPart("0x0063ffff", 20036382, 99);
        drawBelowPart("0x00640000", -269769085, 0);
    }

    private static void drawWraps() {
        Expect.by("draw: x becomes 1103515245 x + 12345 (an int, wrapping)");
        for (int seed : new int[] {0, 1, -1, 2, MAX, MIN, MAX - 1, MIN + 1, 1 << 30, 1103515245}) {
            for (int part : new int[] {1, 50, 99}) {
                drawsLikeTheRule(30, seed, part);
            }
        }
    }

    private static void drawsLikeTheRule(int n, int seed, int part) {
        ColourProof x = Graphs.of(n);
        int got = x.draw(seed, part);
        BigInteger state = BigInteger.valueOf(seed);
        int edges = 0;
        for (int a = 0; a < n; a++) {
            for (int b = a + 1; b < n; b++) {
                state = state.multiply(BigInteger.valueOf(1103515245)).add(BigInteger.valueOf(12345));
                // Of the number that never wraps these 16 bits are the same.
                boolean joined = state.shiftRight(16).and(BigInteger.valueOf(0xffff)).intValue() % 100 < part;
                Expect.due("draw(" + seed + ", " + part + "), has(" + a + ", " + b + ")", x.has(a, b), joined);
                edges += joined ? 1 : 0;
            }
        }
        Expect.due("draw(" + seed + ", " + part + ")", got, edges);
    }

    private static void drawWithoutSign() {
        Expect.by("draw: as a number of 16 bits without sign");
        drawBelowPart("0x7fffffff", -1916945634, 67);
        drawBelowPart("0x80000000", 2088216195, 68);
        drawBelowPart("0xffff0000", 286434947, 35);
        drawBelowPart("0xffffffff", 230538014, 35);
    }

    private static void drawGoesOverPairs() {
        Expect.by("draw: for each pair a below b, by a, then by b");
        for (int n = 0; n <= 6; n++) {
            for (int seed = 0; seed < 20; seed++) {
                drawsLikeTheRule(n, seed, 50);
            }
        }
        Expect.due("draw(5, 100) without vertices", new ColourProof().draw(5, 100), 0);
        Expect.due("draw(5, 100) of one", Graphs.of(1).draw(5, 100), 0);
        Expect.due("draw(5, 100) of two", Graphs.of(2).draw(5, 100), 1);
        Expect.due("draw(5, 100) of 30", Graphs.of(30).draw(5, 100), 435);
    }

    private static void drawAnew() {
        Expect.by("draw: EDGES are drawn anew");
        ColourProof x = Graphs.complete(30);
        Expect.due("draw(3, 0) of all edges", x.draw(3, 0), 0);
        Expect.due("count(1)", x.count(1), 0);
        x.edge(0, 1, true);
        int edges = x.draw(3, 40);
        Expect.due("draw(3, 40) twice", x.draw(3, 40), edges);
        Expect.due("of a new graph", Graphs.of(30).draw(3, 40), edges);
        Expect.due("count(1)", x.count(1), edges);
        Expect.due("n stays", x.count(0), 30);
    }

    private static void drawPartAtItsEnds() {
        Expect.by("draw: NUMBER: part isn't 0 .. 100");
        for (int seed : new int[] {0, -1, 77, MIN, MAX}) {
            Expect.due("draw(" + seed + ", 0)", Graphs.of(30).draw(seed, 0), 0);
            Expect.due("draw(" + seed + ", 100)", Graphs.of(30).draw(seed, 100), 435);
            for (int bad : new int[] {-1, 101, MIN, MAX}) {
                Calls.changesNothing("draw(" + seed + ", " + bad + ")", Graphs::solved, x -> x.draw(seed, bad), -1);
            }
        }
        Calls.changesNothing("draw(1, -1) without vertices", Graphs::solvedEmpty, x -> x.draw(1, -1), -1);
        Calls.changesNothing("draw(1, 101) without vertices", Graphs::solvedEmpty, x -> x.draw(1, 101), -1);
    }

    private static void turnWrapsByN() {
        Expect.by("turn: Each vertex v becomes what (v times factor plus shift) leaves by n: 1");
        for (int n = 2; n <= 30; n++) {
            for (int factor : new int[] {1, n - 1, n + 1, 29, 30}) {
                for (int shift : new int[] {0, 1, n - 1}) {
                    if (factor <= 30 && gcd(factor, n) == 1) {
                        turnsLikeTheRule(n, factor, shift);
                    }
                }
            }
        }
    }

    private static void turnsLikeTheRule(int n, int factor, int shift) {
        ColourProof old = Graphs.drawn(n, n * factor + shift, 50);
        ColourProof x = Graphs.drawn(n, n * factor + shift, 50);
        String call = "turn(" + factor + ", " + shift + ") of " + n;
        Expect.due(call, x.turn(factor, shift), 1);
        int different = 0;
        for (int a = 0; a < n; a++) {
            for (int b = a + 1; b < n; b++) {
                different += old.has(a, b) == x.has((a * factor + shift) % n, (b * factor + shift) % n) ? 0 : 1;
            }
        }
        Expect.due(call + ": pairs that are not turned", different, 0);
        Expect.due(call + ": n stays", x.count(0), n);
    }

    private static int gcd(int a, int b) {
        return b == 0 ? a : gcd(b, a % b);
    }

    private static void turnAtItsEnds() {
        Expect.by("turn: shift 0 .. n - 1, factor 1 .. 30");
        Expect.due("turn(1, 0) of 30", Graphs.of(30).turn(1, 0), 1);
        Expect.due("turn(29, 29) of 30", Graphs.of(30).turn(29, 29), 1);
        Expect.due("turn(30, 28) of 29", Graphs.of(29).turn(30, 28), 1);
        Expect.due("turn(30, 0) of one", Graphs.of(1).turn(30, 0), 1);
        Expect.due("turn(1, 0) of one", Graphs.of(1).turn(1, 0), 1);
    }

    private static void turnRefusesWithoutVertices() {
        Expect.by("turn: NUMBER: there are no vertices");
        for (int factor = 0; factor <= 31; factor++) {
            int by = factor;
            Calls.changesNothing("turn(" + by + ", 0) without vertices", Graphs::solvedEmpty, x -> x.turn(by, 0), -1);
        }
        ColourProof x = Graphs.complete(30);
        x.graph(0);
        Expect.due("turn(1, 0) when the vertices are gone", x.turn(1, 0), -1);
    }

    private static void turnRefusesShift() {
        Expect.by("turn: NUMBER: .. shift isn't 0 .. n - 1");
        for (int n = 1; n <= 30; n++) {
            int size = n;
            Expect.due("turn(1, " + (n - 1) + ") of " + n, Graphs.of(n).turn(1, n - 1), 1);
            Expect.due("turn(1, " + n + ") of " + n, Graphs.of(n).turn(1, size), -1);
            Expect.due("turn(1, -1) of " + n, Graphs.of(n).turn(1, -1), -1);
        }
        for (int bad : new int[] {-1, 5, 6, MIN, MAX}) {
            Calls.changesNothing("turn(2, " + bad + ")", Graphs::solved, x -> x.turn(2, bad), -1);
        }
    }

    private static void turnRefusesFactor() {
        Expect.by("turn: NUMBER: .. factor isn't 1 .. 30");
        for (int bad : new int[] {0, -1, -2, 31, 32, MIN, MIN + 1, MAX}) {
            Calls.changesNothing("turn(" + bad + ", 1)", Graphs::solved, x -> x.turn(bad, 1), -1);
            Expect.due("turn(" + bad + ", 0) of one", Graphs.of(1).turn(bad, 0), -1);
        }
        Expect.due("turn(1, 1)", Graphs.solved().turn(1, 1), 1);
        Expect.due("turn(29, 1)", Graphs.solved().turn(29, 1), 1);
    }

    private static void turnRefusesCommonDivisors() {
        Expect.by("turn: NUMBER: .. or factor and n have a common divisor above 1");
        for (int n = 1; n <= 30; n++) {
            for (int factor = 1; factor <= 30; factor++) {
                Expect.due("turn(" + factor + ", 0) of " + n, Graphs.of(n).turn(factor, 0),
                        gcd(factor, n) == 1 ? 1 : -1);
            }
        }
        for (int factor : new int[] {5, 10, 30}) {
            Calls.changesNothing("turn(" + factor + ", 1)", Graphs::solved, x -> x.turn(factor, 1), -1);
        }
    }

    private static void turnAsBefore() {
        Expect.by("turn: What was solved goes, also if all is as before");
        ColourProof x = Graphs.solved();
        Expect.due("turn(1, 0)", x.turn(1, 0), 1);
        Expect.due("lines()", x.lines(), -2);
        Expect.due("the graph is as before", State.GRAPH.of(x).equals(State.GRAPH.of(Graphs.solved())), true);
        x = Graphs.of(30);
        x.solve();
        Expect.due("turn(7, 3) without edges", x.turn(7, 3), 1);
        Expect.due("lines()", x.lines(), -2);
    }

    private static void countOfEach() {
        Expect.by("count: What = 0: n; 1 EDGES, 2 the greatest DEGREE");
        for (int n = 1; n <= 30; n++) {
            ColourProof x = Graphs.complete(n);
            Expect.due("count(0) of all edges of " + n, x.count(0), n);
            Expect.due("count(1) of all edges of " + n, x.count(1), n * (n - 1) / 2);
            Expect.due("count(2) of all edges of " + n, x.count(2), n - 1);
            x = Graphs.of(n);
            Expect.due("count(0) without edges of " + n, x.count(0), n);
            Expect.due("count(1) without edges of " + n, x.count(1), 0);
            Expect.due("count(2) without edges of " + n, x.count(2), 0);
        }
        // The greatest is that of the first, of the last, or of one in between.
        Expect.due("count(2) by the first", Graphs.of(30, 0, 1, 0, 2).count(2), 2);
        Expect.due("count(2) by the last", Graphs.of(30, 29, 1, 29, 2).count(2), 2);
        Expect.due("count(2) by one in between", Graphs.of(30, 15, 1, 15, 29).count(2), 2);
    }

    private static void countWithoutVertices() {
        Expect.by("count: (0 without vertices)");
        ColourProof x = Graphs.complete(30);
        x.graph(0);
        for (int what = 0; what <= 2; what++) {
            Expect.due("count(" + what + ")", x.count(what), 0);
        }
    }

    private static void countOfAnother() {
        Expect.by("count: -1 for another what");
        for (int bad : new int[] {-1, -2, 3, 4, MIN, MAX}) {
            Calls.changesNothing("count(" + bad + ")", Graphs::solved, x -> x.count(bad), -1);
            Expect.due("count(" + bad + ") without vertices", new ColourProof().count(bad), -1);
        }
    }

    private static void hasOfNoVertex() {
        Expect.by("has: Whether a and b are NEIGHBOURS (false if one is no vertex)");
        int[] none = {-1, -32, -31, 30, 31, 32, 33, 61, MIN, MAX};
        ColourProof x = Graphs.complete(30);
        for (int bad : none) {
            for (int good : new int[] {0, 1, 28, 29}) {
                Expect.due("has(" + good + ", " + bad + ")", x.has(good, bad), false);
                Expect.due("has(" + bad + ", " + good + ")", x.has(bad, good), false);
            }
            Expect.due("has(" + bad + ", " + bad + ")", x.has(bad, bad), false);
        }
        Expect.due("has(28, 29)", x.has(28, 29), true);
        for (int n = 2; n < 30; n++) {
            x = Graphs.complete(n);
            Expect.due("has(0, " + (n - 1) + ") of " + n, x.has(0, n - 1), true);
            Expect.due("has(0, " + n + ") of " + n, x.has(0, n), false);
            Expect.due("has(" + n + ", 0) of " + n, x.has(n, 0), false);
        }
        Expect.due("has(0, 0) without vertices", new ColourProof().has(0, 0), false);
    }

    private static void degreeAtItsEnds() {
        Expect.by("degree: The DEGREE of a vertex. NUMBER: it is none");
        for (int n = 0; n <= 30; n++) {
            ColourProof x = Graphs.complete(n);
            if (n > 0) {
                Expect.due("degree(0) of " + n, x.degree(0), n - 1);
                Expect.due("degree(" + (n - 1) + ") of " + n, x.degree(n - 1), n - 1);
            }
            for (int bad : new int[] {-1, n, 30, 31, MIN, MAX}) {
                Expect.due("degree(" + bad + ") of " + n, x.degree(bad), -1);
            }
        }
        Calls.changesNothing("degree(5)", Graphs::solved, x -> x.degree(5), -1);
    }
}
