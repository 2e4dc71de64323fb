/** Terms, 1: the boundary cases that its sentences on the graph and on colourings name, a test for each. */
public final class Terms1Test {
    public static void main(String[] args) {
        vertices();
        noneAtFirst();
        edgesJoinDifferentOnes();
        neighboursBothWays();
        degree();
        wholeWithoutVertices();
        saturationCountsColours();
        freeAreThoseBelowK();
        freeAreThoseThatNoNeighbourHas();
        choiceBySaturation();
        choiceByNeighboursWithoutAColour();
        choiceIsTheLeast();
        Expect.end();
    }

    private static void vertices() {
        Expect.by("THE GRAPH has n VERTICES 0 .. n - 1 (n is 0 to 30)");
        for (int n = 0; n <= 30; n++) {
            ColourProof x = new ColourProof();
            Expect.due("graph(" + n + ")", x.graph(n), n);
            Expect.due("graph(" + n + "), degree(-1)", x.degree(-1), -1);
            Expect.due("graph(" + n + "), degree(" + n + ")", x.degree(n), -1);
            if (n > 0) {
                Expect.due("graph(" + n + "), degree(0)", x.degree(0), 0);
                Expect.due("graph(" + n + "), degree(" + (n - 1) + ")", x.degree(n - 1), 0);
            }
        }
        Expect.due("graph(-1)", new ColourProof().graph(-1), -1);
        Expect.due("graph(31)", new ColourProof().graph(31), -1);
    }

    private static void noneAtFirst() {
        Expect.by("0 at first");
        Expect.due("count(0)", new ColourProof().count(0), 0);
        Expect.due("degree(0)", new ColourProof().degree(0), -1);
    }

    private static void edgesJoinDifferentOnes() {
        Expect.by("EDGES between two different ones");
        ColourProof x = Graphs.complete(30);
        for (int v = 0; v < 30; v++) {
            Expect.due("has(" + v + ", " + v + ")", x.has(v, v), false);
            Expect.due("edge(" + v + ", " + v + ", true)", x.edge(v, v, true), -1);
            Expect.due("has(" + v + ", " + v + ") then", x.has(v, v), false);
        }
        Expect.due("count(1)", x.count(1), 435);
        Expect.due("the first two are different", Graphs.of(2).edge(0, 1, true), 1);
    }

    private static void neighboursBothWays() {
        Expect.by("Two with an EDGE between them are NEIGHBOURS");
        ColourProof x = Graphs.of(30, 0, 29);
        Expect.due("has(0, 29)", x.has(0, 29), true);
        Expect.due("has(29, 0)", x.has(29, 0), true);
        x = Graphs.of(30, 29, 0);
        Expect.due("has(0, 29)", x.has(0, 29), true);
        Expect.due("has(29, 0)", x.has(29, 0), true);
    }

    private static void degree() {
        Expect.by("the DEGREE of a vertex is how many it has");
        ColourProof x = Graphs.of(30);
        for (int w = 1; w < 30; w++) {
            Expect.due("degree(0)", x.degree(0), w - 1);
            Expect.due("degree(" + w + ")", x.degree(w), 0);
            x.edge(0, w, true);
            Expect.due("degree(" + w + ")", x.degree(w), 1);
        }
        Expect.due("degree(0) of all", x.degree(0), 29);
    }

    private static void wholeWithoutVertices() {
        Expect.by("it is WHOLE if all vertices have one");
        ColourProof x = new ColourProof();
        Expect.due("search(0) without vertices", x.search(0), 1);
        Logs.due("search(0) without vertices", x);
        x.graph(1);
        Expect.due("search(0) of one vertex", x.search(0), 0);
        Expect.due("search(1) of one vertex", x.search(1), 1);
        Logs.due("search(1) of one vertex", x, Logs.BRANCH, 0, Logs.TRY, 0);
    }

    private static void saturationCountsColours() {
        Expect.by("its SATURATION is how many colours its NEIGHBOURS have together");
        // When 3, 0 and 2 have the colours 0, 1 and 0, 4 has two neighbours of one colour, and 1 one of it.
        ColourProof x = Graphs.of(5, 0, 2, 0, 3, 1, 3, 2, 4, 3, 4);
        Expect.due("search(2)", x.search(2), 1);
        Logs.due("search(2)", x, Logs.BRANCH, 3, Logs.TRY, 0, Logs.BRANCH, 0, Logs.BLOCK, 3, Logs.TRY, 1,
                Logs.BRANCH, 2, Logs.TRY, 0, Logs.BRANCH, 1, Logs.BLOCK, 3, Logs.TRY, 1,
                Logs.BRANCH, 4, Logs.BLOCK, 2, Logs.TRY, 1);
        x.paint(3, 6);
        Expect.due("saturation(4) by one neighbour", x.saturation(4), 1);
        x.paint(2, 6);
        Expect.due("saturation(4) by two of one colour", x.saturation(4), 1);
        x.paint(2, 7);
        Expect.due("saturation(4) by two of two colours", x.saturation(4), 2);
    }

    private static void freeAreThoseBelowK() {
        Expect.by("FREE for it are, with k colours, those of 0 .. k - 1");
        for (int k = 0; k <= 29; k++) {
            // As many neighbours as there are free colours can be closed no more, one vertex more can.
            ColourProof x = Graphs.complete(30);
            Expect.due("CLOSE of " + (k + 1) + " with " + k, Logs.tell(x, Logs.CLOSE, (1 << k + 1) - 1).check(k), -1);
            Expect.due("CLOSE of " + k + " with " + k, Logs.tell(x, Logs.CLOSE, (1 << k) - 1).check(k), 0);
        }
        Expect.due("CLOSE of 30 with 30", Logs.tell(Graphs.complete(30), Logs.CLOSE, (1 << 30) - 1).check(30), 0);
    }

    private static void freeAreThoseThatNoNeighbourHas() {
        Expect.by("FREE for it are .. those .. that none of its NEIGHBOURS has");
        // 2 sees the colours 0 and 1; 3 sees none.
        int[] told = {Logs.BRANCH, 0, Logs.TRY, 0, Logs.BRANCH, 1, Logs.BLOCK, 0, Logs.TRY, 1, Logs.CLOSE, 4};
        ColourProof x = Logs.tell(Graphs.of(4, 0, 1, 0, 2, 1, 2), told);
        Expect.due("CLOSE of one that sees all of two colours", x.check(2), -1);
        Expect.due("CLOSE of one that sees two of three colours", x.check(3), 5);
        x.alter(5, Logs.CLOSE, 8);
        Expect.due("CLOSE of one that sees none", x.check(2), 5);
    }

    private static void choiceBySaturation() {
        Expect.by("CHOICE is .. the one with the greatest SATURATION");
        // When 0 has a colour, 4 and 5 have a neighbour without one, and 1, 2 and 3 have none.
        ColourProof x = Graphs.of(6, 0, 1, 0, 2, 0, 3, 4, 5);
        x.search(2);
        branches("search(2)", x, 0, 1, 2, 3, 4, 5);
        // 5 comes behind its neighbour 0, though all its neighbours are left, and 1 to 4 have none.
        x = Graphs.of(6, 0, 5, 1, 2, 3, 4);
        x.search(2);
        branches("search(2)", x, 0, 5, 1, 2, 3, 4);
    }

    private static void choiceByNeighboursWithoutAColour() {
        Expect.by("of several the one with the most NEIGHBOURS without a colour");
        ColourProof x = Graphs.of(3, 1, 2);
        x.search(2);
        branches("search(2)", x, 1, 2, 0);
        // At the end 1 and 4 see one colour and have no neighbour without one: the greater degree of 4 is nothing.
        x = Graphs.of(5, 0, 2, 0, 3, 1, 3, 2, 4, 3, 4);
        x.search(2);
        branches("search(2)", x, 3, 0, 2, 1, 4);
    }

    private static void choiceIsTheLeast() {
        Expect.by("of several the least");
        int[] all = new int[20];
        for (int v = 0; v < 20; v++) {
            all[v] = v;
        }
        ColourProof x = Graphs.complete(20);
        x.search(20);
        branches("search(20) of all edges", x, all);
        x = Graphs.of(20);
        x.search(1);
        branches("search(1) without edges", x, all);
    }

    /** The told log has just these BRANCHES, in this order. */
    private static void branches(String call, ColourProof x, int... vertices) {
        int seen = 0;
        int lines = State.toldLines(x);
        for (int i = 0; i < lines; i++) {
            if (x.told(i, 0) == Logs.BRANCH) {
                Expect.due(call + ": BRANCH " + seen, x.told(i, 1), seen < vertices.length ? vertices[seen] : -1);
                seen++;
            }
        }
        Expect.due(call + ": BRANCHES", seen, vertices.length);
    }
}
