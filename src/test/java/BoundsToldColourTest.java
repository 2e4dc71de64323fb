import java.util.EnumSet;

/** Promises 23 to 28: each sentence of theirs that names a boundary case has a test here. */
public final class BoundsToldColourTest {
    private static final int MIN = Integer.MIN_VALUE;
    private static final int MAX = Integer.MAX_VALUE;

    public static void main(String[] args) {
        paintAnswersWhatItWas();
        paintRefusesVertices();
        paintRefusesColours();
        paintWhateverNIs();
        copyOfTheBest();
        copyUnsolved();
        clashesOfTheSame();
        clashesOfNone();
        usedIsDifferent();
        usedOfVerticesOfTheGraph();
        usedWithoutNone();
        chainOfOne();
        chainOverBothColoursAlone();
        chainOfAll();
        chainOverSeveralWays();
        chainChangesTheOneForTheOther();
        chainOfVerticesOfTheGraph();
        chainRefusesNoVertex();
        chainRefusesItsOwnColours();
        chainRefusesColours();
        saturationAtItsEnds();
        saturationWhateverItsOwnIs();
        saturationOfClashingOnes();
        saturationRefusesNoVertex();
        Expect.end();
    }

    private static ColourProof paint(ColourProof x, int... colours) {
        for (int v = 0; v < colours.length; v++) {
            x.paint(v, colours[v]);
        }
        return x;
    }

    /** The first vertices have these told colours, and all others of the 30 none. */
    private static void painted(String call, ColourProof x, int... colours) {
        for (int v = 0; v < 30; v++) {
            int due = v < colours.length ? colours[v] : -1;
            int got = x.paint(v, -1);
            x.paint(v, got);
            Expect.due(call + ": the told colour of " + v, got, due);
        }
    }

    private static void paintAnswersWhatItWas() {
        Expect.by("paint: The told colour of a vertex becomes c (0 .. 29; -1: none): what it was");
        ColourProof x = new ColourProof();
        for (int v : new int[] {0, 15, 29}) {
            Expect.due("paint(" + v + ", -1)", x.paint(v, -1), -1);
            Expect.due("paint(" + v + ", 0)", x.paint(v, 0), -1);
            Expect.due("paint(" + v + ", 0)", x.paint(v, 0), 0);
            Expect.due("paint(" + v + ", 29)", x.paint(v, 29), 0);
            Expect.due("paint(" + v + ", -1)", x.paint(v, -1), 29);
            Expect.due("paint(" + v + ", 1)", x.paint(v, 1), -1);
        }
        painted("beside them", x, 1, -1, -1, -1, -1, -1, -1, -1, -1, -1, -1, -1, -1, -1, -1, 1, -1, -1, -1, -1, -1, -1,
                -1, -1, -1, -1, -1, -1, -1, 1);
        Calls.changes("paint(1, 2)", Graphs::solved, y -> y.paint(1, 2), 29, EnumSet.of(State.TOLD));
    }

    private static void paintRefusesVertices() {
        Expect.by("paint: NUMBER is answered as -2 here: v isn't 0 .. 29");
        for (int bad : new int[] {-1, -2, 30, 31, 32, MIN, MAX}) {
            for (int c : new int[] {-1, 0, 29}) {
                Calls.changesNothing("paint(" + bad + ", " + c + ")", Graphs::solved, x -> x.paint(bad, c), -2);
            }
        }
        Calls.changesNothing("paint(30, 1) of 30", () -> Graphs.complete(30), x -> x.paint(30, 1), -2);
    }

    private static void paintRefusesColours() {
        Expect.by("paint: NUMBER is answered as -2 here: .. or c none of these");
        for (int bad : new int[] {-2, -3, 30, 31, 32, MIN, MAX}) {
            for (int v : new int[] {0, 1, 2, 29}) {
                Calls.changesNothing("paint(" + v + ", " + bad + ")", Graphs::solved, x -> x.paint(v, bad), -2);
            }
        }
    }

    private static void paintWhateverNIs() {
        Expect.by("paint: (There are told colours of all 30, whatever n is.)");
        for (int n : new int[] {0, 1, 15, 29, 30}) {
            ColourProof x = Graphs.of(n);
            for (int v = 0; v < 30; v++) {
                Expect.due("paint(" + v + ", " + (29 - v) + ") of " + n, x.paint(v, 29 - v), -1);
            }
            x.graph(30 - n);
            for (int v = 0; v < 30; v++) {
                Expect.due("paint(" + v + ", 0), then of " + (30 - n), x.paint(v, 0), 29 - v);
            }
        }
    }

    private static void copyOfTheBest() {
        Expect.by("copy: The told colours of all vertices of the graph become those of THE BEST: n");
        ColourProof x = paint(Graphs.ring(5), 9, 9, 9, 9, -1, 8);
        x.solve();
        Expect.due("copy()", x.copy(), 5);
        painted("copy()", x, 0, 1, 0, 1, 2, 8);
        x = paint(new ColourProof(), 9, 9);
        x.solve();
        Expect.due("copy() without vertices", x.copy(), 0);
        painted("copy() without vertices", x, 9, 9);
        x = paint(Graphs.of(1), 9, 9);
        x.solve();
        Expect.due("copy() of one", x.copy(), 1);
        painted("copy() of one", x, 0, 9);
        x = Graphs.complete(30);
        x.solve();
        Expect.due("copy() of 30", x.copy(), 30);
        for (int v = 0; v < 30; v++) {
            Expect.due("paint(" + v + ", 0)", x.paint(v, 0), v);
        }
        Calls.changes("copy()", Graphs::solved, ColourProof::copy, 5, EnumSet.of(State.TOLD));
        // They are told colours of their own then.
        x = Graphs.solved();
        x.copy();
        x.paint(0, 20);
        x.chain(1, 21);
        Expect.due("colour(0)", x.colour(0), 0);
        Expect.due("colour(1)", x.colour(1), 1);
    }

    private static void copyUnsolved() {
        Expect.by("copy: UNSOLVED");
        Calls.changesNothing("copy()", Graphs::unsolved, ColourProof::copy, -2);
        Calls.changesNothing("copy() of a new one", ColourProof::new, ColourProof::copy, -2);
        ColourProof x = Graphs.solved();
        x.edge(0, 2, true);
        Expect.due("copy() when it is not solved any more", x.copy(), -2);
    }

    private static void clashesOfTheSame() {
        Expect.by("clashes: How many EDGES have two told colours that are the same");
        Expect.due("no vertices", paint(new ColourProof(), 3, 3).clashes(), 0);
        Expect.due("no edges", paint(Graphs.of(2), 3, 3).clashes(), 0);
        Expect.due("one edge of the colour 0", paint(Graphs.of(2, 0, 1), 0, 0).clashes(), 1);
        Expect.due("one edge of the colour 29", paint(Graphs.of(2, 0, 1), 29, 29).clashes(), 1);
        Expect.due("one edge of two colours", paint(Graphs.of(2, 0, 1), 0, 1).clashes(), 0);
        ColourProof x = Graphs.complete(30);
        for (int v = 0; v < 30; v++) {
            x.paint(v, 5);
        }
        Expect.due("all edges", x.clashes(), 435);
        for (int v = 0; v < 30; v++) {
            x.paint(v, v);
        }
        Expect.due("all edges of 30 colours", x.clashes(), 0);
        Expect.due("the last edge", paintLast(Graphs.of(30, 28, 29), 28, 29).clashes(), 1);
        // Vertices that the graph has no more have no edges.
        x = paint(Graphs.complete(3), 7, 7, 7);
        x.graph(2);
        x.edge(0, 1, true);
        Expect.due("of two that are left", x.clashes(), 1);
        Calls.changesNothing("clashes()", Graphs::solved, ColourProof::clashes, 0);
    }

    private static ColourProof paintLast(ColourProof x, int a, int b) {
        x.paint(a, 4);
        x.paint(b, 4);
        return x;
    }

    private static void clashesOfNone() {
        Expect.by("clashes: (and none of them -1)");
        Expect.due("none is painted", Graphs.complete(30).clashes(), 0);
        Expect.due("one is painted", paint(Graphs.of(2, 0, 1), 0, -1).clashes(), 0);
        Expect.due("the other is painted", paint(Graphs.of(2, 0, 1), -1, 0).clashes(), 0);
        Expect.due("both were painted", paint(paint(Graphs.of(2, 0, 1), 3, 3), -1, -1).clashes(), 0);
    }

    private static void usedIsDifferent() {
        Expect.by("used: How many different told colours");
        Expect.due("one", paint(Graphs.of(3), 0).used(), 1);
        Expect.due("one, thrice", paint(Graphs.of(3), 29, 29, 29).used(), 1);
        Expect.due("two", paint(Graphs.of(3), 29, 0, 29).used(), 2);
        ColourProof x = Graphs.of(30);
        for (int v = 0; v < 30; v++) {
            x.paint(v, 29 - v);
            Expect.due("used() of " + (v + 1), x.used(), v + 1);
        }
        Calls.changesNothing("used()", Graphs::solved, ColourProof::used, 2);
    }

    private static void usedOfVerticesOfTheGraph() {
        Expect.by("used: told colours vertices of the graph have");
        ColourProof x = new ColourProof();
        for (int v = 0; v < 30; v++) {
            x.paint(v, v);
        }
        for (int n = 0; n <= 30; n++) {
            x.graph(n);
            Expect.due("used() of " + n, x.used(), n);
        }
    }

    private static void usedWithoutNone() {
        Expect.by("used: (-1 isn't counted)");
        Expect.due("none is painted", Graphs.of(30).used(), 0);
        Expect.due("one is painted", paint(Graphs.of(30), -1, 6).used(), 1);
        Expect.due("it was painted", paint(paint(Graphs.of(30), -1, 6), -1, -1).used(), 0);
    }

    private static void chainOfOne() {
        Expect.by("chain: v, and all that can be come to from it");
        ColourProof x = paint(Graphs.of(3), 0, 0, 1);
        Expect.due("chain(0, 1) without edges", x.chain(0, 1), 1);
        painted("chain(0, 1)", x, 1, 0, 1);
        // A neighbour of a third colour, and one of none.
        x = paint(Graphs.of(3, 0, 1, 0, 2), 0, 2, -1);
        Expect.due("chain(0, 1)", x.chain(0, 1), 1);
        painted("chain(0, 1)", x, 1, 2, -1);
        Expect.due("chain(0, 29)", x.chain(0, 29), 1);
        Expect.due("chain(0, 0)", x.chain(0, 0), 1);
        painted("chain(0, 0)", x, 0, 2, -1);
    }

    private static void chainOverBothColoursAlone() {
        Expect.by("chain: by EDGES over vertices with its told colour or c alone");
        // A way from 0 to 4: over a third colour, or over none, nothing behind can be come to.
        int[] way = {0, 1, 1, 2, 2, 3, 3, 4};
        ColourProof x = paint(Graphs.of(5, way), 0, 1, 2, 1, 0);
        Expect.due("chain(0, 1) over 2", x.chain(0, 1), 2);
        painted("chain(0, 1)", x, 1, 0, 2, 1, 0);
        x = paint(Graphs.of(5, way), 0, 1, -1, 1, 0);
        Expect.due("chain(0, 1) over none", x.chain(0, 1), 2);
        painted("chain(0, 1)", x, 1, 0, -1, 1, 0);
        // Clashing neighbours of its own colour, and of c, are come to.
        x = paint(Graphs.of(5, way), 3, 3, 4, 4, 5);
        Expect.due("chain(0, 4)", x.chain(0, 4), 4);
        painted("chain(0, 4)", x, 4, 4, 3, 3, 5);
    }

    private static void chainOfAll() {
        Expect.by("chain: all that can be come to from it by EDGES");
        // Ways that go up and down by numbers, and one that jumps, of 29 steps each.
        for (int factor : new int[] {1, 7, 29}) {
            ColourProof x = Graphs.of(30);
            for (int step = 0; step < 29; step++) {
                x.edge(step * factor % 30, (step + 1) * factor % 30, true);
            }
            for (int step = 0; step < 30; step++) {
                x.paint(step * factor % 30, step % 2 == 0 ? 29 : 0);
            }
            Expect.due("chain(0, 0) of a way by " + factor, x.chain(0, 0), 30);
            Expect.due("chain(.., 0) from its other end", x.chain(29 * factor % 30, 0), 30);
            for (int step = 0; step < 30; step++) {
                int v = step * factor % 30;
                Expect.due("paint(" + v + ", 0)", x.paint(v, 0), step % 2 == 0 ? 29 : 0);
            }
        }
    }

    private static void chainOverSeveralWays() {
        Expect.by("chain: all that can be come to from it by EDGES (by one way or by several of one length)");
        ColourProof x = paint(Graphs.ring(4), 0, 1, 0, 1);
        Expect.due("chain(0, 1) of a ring of four", x.chain(0, 1), 4);
        painted("chain(0, 1)", x, 1, 0, 1, 0);
        x = paint(Graphs.complete(5), 3, 3, 3, 3, 3);
        Expect.due("chain(4, 0) of all edges", x.chain(4, 0), 5);
        painted("chain(4, 0)", x, 0, 0, 0, 0, 0);
    }

    private static void chainChangesTheOneForTheOther() {
        Expect.by("chain: all of these change the one for the other: how many these are");
        ColourProof x = paint(Graphs.of(7, 0, 1, 1, 2, 2, 3, 5, 6), 0, 29, 0, 29, 0, 29, 0, 0);
        Expect.due("chain(2, 29)", x.chain(2, 29), 4);
        painted("chain(2, 29)", x, 29, 0, 29, 0, 0, 29, 0, 0);
        Expect.due("chain(2, 0), back", x.chain(2, 0), 4);
        painted("chain(2, 0)", x, 0, 29, 0, 29, 0, 29, 0, 0);
        Expect.due("chain(2, 5), a colour that none has", x.chain(2, 5), 1);
        painted("chain(2, 5)", x, 0, 29, 5, 29, 0, 29, 0, 0);
        Calls.changes("chain(0, 29)", Graphs::solved, y -> y.chain(0, 29), 2, EnumSet.of(State.TOLD));
    }

    private static void chainOfVerticesOfTheGraph() {
        Expect.by("chain: The chain of a vertex v (vertices that the graph has no more are in none)");
        ColourProof x = paint(Graphs.complete(4), 0, 1, 0, 1);
        x.graph(2);
        x.edge(0, 1, true);
        Expect.due("chain(0, 1)", x.chain(0, 1), 2);
        painted("chain(0, 1)", x, 1, 0, 0, 1);
    }

    private static void chainRefusesNoVertex() {
        Expect.by("chain: NUMBER: v is no vertex");
        for (int bad : new int[] {-1, 5, 29, 30, 31, 32, MIN, MAX}) {
            Calls.changesNothing("chain(" + bad + ", 3)", Graphs::solved, x -> x.chain(bad, 3), -1);
        }
        Calls.changesNothing("chain(0, 3) without vertices", Graphs::solvedEmpty, x -> x.chain(0, 3), -1);
        ColourProof x = paint(Graphs.of(3), 0, 0, 0, 0);
        Expect.due("chain(2, 3) of three", x.chain(2, 3), 1);
        Expect.due("chain(3, 3) of three", x.chain(3, 3), -1);
        painted("chain(3, 3)", x, 0, 0, 3, 0);
    }

    private static void chainRefusesItsOwnColours() {
        Expect.by("chain: NUMBER: .. its told colour is -1 or c");
        Calls.changesNothing("chain(0, 4), its own", Graphs::solved, x -> x.chain(0, 4), -1);
        Calls.changesNothing("chain(1, 29), its own", Graphs::solved, x -> x.chain(1, 29), -1);
        for (int c : new int[] {-1, 0, 4, 29}) {
            Calls.changesNothing("chain(2, " + c + "), it has none", Graphs::solved, x -> x.chain(2, c), -1);
        }
        Expect.due("chain(0, 5)", Graphs.solved().chain(0, 5), 1);
        Expect.due("chain(1, 28)", Graphs.solved().chain(1, 28), 1);
    }

    private static void chainRefusesColours() {
        Expect.by("chain: NUMBER: .. or c isn't 0 .. 29");
        for (int bad : new int[] {-1, -2, 30, 31, 32, MIN, MAX}) {
            Calls.changesNothing("chain(0, " + bad + ")", Graphs::solved, x -> x.chain(0, bad), -1);
        }
        Expect.due("chain(0, 0)", Graphs.solved().chain(0, 0), 1);
        Expect.due("chain(0, 28)", Graphs.solved().chain(0, 28), 1);
        Expect.due("chain(0, 29)", Graphs.solved().chain(0, 29), 2);
    }

    private static void saturationAtItsEnds() {
        Expect.by("saturation: The SATURATION of a vertex by the told colours");
        Expect.due("no neighbour", paint(Graphs.of(2), 0, 1).saturation(0), 0);
        Expect.due("a neighbour without a colour", Graphs.of(2, 0, 1).saturation(0), 0);
        Expect.due("a neighbour with the colour 0", paint(Graphs.of(2, 0, 1), -1, 0).saturation(0), 1);
        Expect.due("a neighbour with the colour 29", paint(Graphs.of(2, 0, 1), -1, 29).saturation(0), 1);
        Expect.due("one that is no neighbour", paint(Graphs.of(3, 0, 1), -1, 0, 1).saturation(0), 1);
        ColourProof x = Graphs.complete(30);
        for (int v = 0; v < 30; v++) {
            Expect.due("saturation(0) of all, " + v + " painted", x.saturation(0), v == 0 ? 0 : v - 1);
            x.paint(v, v);
        }
        Expect.due("saturation(0) of all", x.saturation(0), 29);
        Expect.due("saturation(29) of all", x.saturation(29), 29);
        // Vertices that the graph has no more are no neighbours.
        x.graph(2);
        x.edge(0, 1, true);
        Expect.due("saturation(0) of two that are left", x.saturation(0), 1);
        Calls.changesNothing("saturation(0)", Graphs::solved, y -> y.saturation(0), 1);
    }

    private static void saturationWhateverItsOwnIs() {
        Expect.by("saturation: (whatever its own is");
        ColourProof x = paint(Graphs.of(3, 0, 1, 0, 2), -1, 4, 5);
        for (int own : new int[] {-1, 0, 4, 5, 29}) {
            x.paint(0, own);
            Expect.due("saturation(0), its own is " + own, x.saturation(0), 2);
        }
    }

    private static void saturationOfClashingOnes() {
        Expect.by("saturation: clashing ones count, too)");
        // 1 and 2 are neighbours of one colour, and 0 has it, too.
        ColourProof x = paint(Graphs.complete(3), 6, 6, 6);
        for (int v = 0; v < 3; v++) {
            Expect.due("saturation(" + v + ")", x.saturation(v), 1);
        }
        x.paint(2, 7);
        Expect.due("saturation(0)", x.saturation(0), 2);
        Expect.due("saturation(2)", x.saturation(2), 1);
    }

    private static void saturationRefusesNoVertex() {
        Expect.by("saturation: NUMBER: it is no vertex");
        for (int bad : new int[] {-1, 5, 6, 29, 30, 31, 32, MIN, MAX}) {
            Calls.changesNothing("saturation(" + bad + ")", Graphs::solved, x -> x.saturation(bad), -1);
        }
        Expect.due("saturation(4)", Graphs.solved().saturation(4), 1);
        Expect.due("saturation(0) without vertices", Graphs.solvedEmpty().saturation(0), -1);
        Expect.due("saturation(29) of 30", Graphs.of(30).saturation(29), 0);
        Expect.due("saturation(30) of 30", Graphs.of(30).saturation(30), -1);
    }
}
