/** Terms, 2: the boundary cases that its sentences on logs, proofs and wrong lines name, a test for each. */
public final class Terms2Test {
    private static final int BRANCH = Logs.BRANCH;
    private static final int BLOCK = Logs.BLOCK;
    private static final int TRY = Logs.TRY;
    private static final int CLOSE = Logs.CLOSE;

    /** Numbers that no graph of up to 30 vertices has as a vertex; some are vertices in their lowest bits. */
    private static final int[] NO_VERTICES = {-1, -32, 30, 31, 32, 33, 64, Integer.MIN_VALUE, Integer.MAX_VALUE};

    public static void main(String[] args) {
        fourOps();
        closeHasAVertex();
        closeHasVerticesOfTheGraph();
        closeHasVerticesWithoutAColour();
        closeHasNeighbours();
        closeHasFewerColours();
        closeTakesWhatIsFreeForOne();
        branchOfAVertex();
        branchOfOneWithoutAColour();
        coloursBelowK();
        coloursNotAboveThoseThatStand();
        coloursInOrder();
        blockByANeighbour();
        blockByTheColour();
        blockByAColourThatIsGone();
        blockByAny();
        tryIfNoneHasIt();
        tryThenAProof();
        triedVertexHasTheColourInItsProofAlone();
        rightForK();
        wrongLineIsTheFirst();
        whatIsBehindCountsNothing();
        endsTooSoon();
        linesBehind();
        Expect.end();
    }

    private static int check(ColourProof x, int k, int... lines) {
        return Logs.tell(x, lines).check(k);
    }

    private static void fourOps() {
        Expect.by("Op 1 BRANCH v, 2 BLOCK w, 3 TRY c, 4 CLOSE s");
        // Each op but BRANCH and CLOSE is wrong as the first line, whatever its number is.
        for (int number : new int[] {0, 1, 2, 3, 4, -1}) {
            Expect.due("BLOCK " + number + " first", check(Graphs.complete(2), 1, BLOCK, number), 0);
            Expect.due("TRY " + number + " first", check(Graphs.complete(2), 1, TRY, number), 0);
        }
        Expect.due("BRANCH 1 first", check(Graphs.complete(2), 1, BRANCH, 1), 1);
        Expect.due("CLOSE 3 first", check(Graphs.complete(2), 1, CLOSE, 3), -1);
    }

    private static void closeHasAVertex() {
        Expect.by("s has at least one vertex");
        for (int k = 0; k <= 30; k++) {
            Expect.due("CLOSE 0, check(" + k + ")", check(Graphs.of(3), k, CLOSE, 0), 0);
            Expect.due("CLOSE 0 without vertices, check(" + k + ")", check(new ColourProof(), k, CLOSE, 0), 0);
        }
        Expect.due("CLOSE of one vertex", check(Graphs.of(3), 0, CLOSE, 1), -1);
    }

    private static void closeHasVerticesOfTheGraph() {
        Expect.by("all are vertices of the graph");
        for (int n = 1; n <= 30; n++) {
            Expect.due("CLOSE of " + (n - 1) + " of " + n, check(Graphs.of(n), 0, CLOSE, 1 << n - 1), -1);
            Expect.due("CLOSE of " + n + " of " + n, check(Graphs.of(n), 0, CLOSE, 1 << n), 0);
            Expect.due("CLOSE of all of " + n, check(Graphs.complete(n), 0, CLOSE, (1 << n) - 1), -1);
            Expect.due("CLOSE of all of " + n + " and one more", check(Graphs.complete(n), 0, CLOSE, (2 << n) - 1), 0);
        }
        for (int bits : new int[] {1 << 30, Integer.MIN_VALUE, 3 << 30}) {
            Expect.due("CLOSE of bits " + bits, check(Graphs.complete(30), 0, CLOSE, bits), 0);
            Expect.due("CLOSE of 0 and bits " + bits, check(Graphs.complete(30), 0, CLOSE, bits + 1), 0);
            Expect.due("CLOSE of all and bits " + bits, check(Graphs.complete(30), 0, CLOSE, bits + (1 << 30) - 1), 0);
        }
        Expect.due("CLOSE 1 without vertices", check(new ColourProof(), 0, CLOSE, 1), 0);
        // A vertex that the graph had is none any more.
        ColourProof x = Graphs.complete(5);
        x.graph(4);
        Expect.due("CLOSE of 4 that was a vertex", check(x, 0, CLOSE, 16), 0);
    }

    private static void closeHasVerticesWithoutAColour() {
        Expect.by("all are vertices .. without a colour");
        ColourProof x = Graphs.complete(4);
        Expect.due("CLOSE of the others", check(x, 3, BRANCH, 0, TRY, 0, CLOSE, 14), -1);
        Expect.due("CLOSE of all", check(x, 3, BRANCH, 0, TRY, 0, CLOSE, 15), 2);
        Expect.due("CLOSE of all, with one colour", check(x, 1, BRANCH, 0, TRY, 0, CLOSE, 15), 2);
        Expect.due("CLOSE of the one with a colour", check(x, 1, BRANCH, 0, TRY, 0, CLOSE, 1), 2);
    }

    private static void closeHasNeighbours() {
        Expect.by("each two NEIGHBOURS");
        ColourProof x = Graphs.complete(30);
        int all = (1 << 30) - 1;
        Expect.due("CLOSE of all", check(x, 29, CLOSE, all), -1);
        for (int[] pair : new int[][] {{0, 1}, {0, 29}, {14, 15}, {28, 29}}) {
            x.edge(pair[0], pair[1], false);
            String name = "without " + pair[0] + "-" + pair[1];
            Expect.due(name + ": CLOSE of all", check(x, 0, CLOSE, all), 0);
            Expect.due(name + ": CLOSE without one", check(x, 28, CLOSE, all - (1 << pair[0])), -1);
            Expect.due(name + ": CLOSE without the other", check(x, 28, CLOSE, all - (1 << pair[1])), -1);
            Expect.due(name + ": CLOSE of both", check(x, 0, CLOSE, (1 << pair[0]) + (1 << pair[1])), 0);
            x.edge(pair[0], pair[1], true);
        }
        Expect.due("CLOSE of one without neighbours", check(Graphs.of(2), 0, CLOSE, 2), -1);
    }

    private static void closeHasFewerColours() {
        Expect.by("the colours that are FREE .. are fewer than the vertices of s");
        for (int n = 1; n <= 30; n++) {
            ColourProof x = Graphs.complete(n);
            Expect.due("CLOSE of " + n + ", check(" + (n - 1) + ")", check(x, n - 1, CLOSE, (1 << n) - 1), -1);
            Expect.due("CLOSE of " + n + ", check(" + n + ")", x.check(n), 0);
            Expect.due("CLOSE of " + n + ", check(0)", x.check(0), -1);
            Expect.due("CLOSE of " + n + ", check(30)", x.check(30), 0);
        }
        // Behind a TRY there is a colour less: three of four colours for the four others.
        ColourProof x = Graphs.complete(5);
        Expect.due("CLOSE of four, check(4)", check(x, 4, BRANCH, 4, TRY, 0, CLOSE, 15), -1);
        Expect.due("CLOSE of three, check(4)", check(x, 4, BRANCH, 4, TRY, 0, CLOSE, 7), 2);
    }

    private static void closeTakesWhatIsFreeForOne() {
        Expect.by("FREE (with k) for at least one of them");
        // 0 has a colour that 2 sees and 1 does not; with 1 - 0, too, both see it.
        int[] told = {BRANCH, 0, TRY, 0, CLOSE, 6};
        Expect.due("one sees it", check(Graphs.of(3, 1, 2, 0, 2), 2, told), 2);
        Expect.due("the other sees it", check(Graphs.of(3, 1, 2, 0, 1), 2, told), 2);
        Expect.due("both see it", check(Graphs.of(3, 1, 2, 0, 1, 0, 2), 2, told), -1);
        Expect.due("none sees it", check(Graphs.of(3, 1, 2), 2, told), 2);
        // 2 sees the colour 0 and 3 the colour 1: for each one colour is free, for both together two are.
        Expect.due("each sees another", check(Graphs.of(4, 0, 1, 0, 2, 1, 3, 2, 3), 2,
                BRANCH, 0, TRY, 0, BRANCH, 1, BLOCK, 0, TRY, 1, CLOSE, 12), 5);
    }

    private static void branchOfAVertex() {
        Expect.by("BRANCH v, v being a vertex of the graph");
        for (int n = 0; n <= 30; n++) {
            ColourProof x = Graphs.of(n);
            for (int bad : NO_VERTICES) {
                Expect.due("BRANCH " + bad + " of " + n, check(x, 0, BRANCH, bad), 0);
            }
            Expect.due("BRANCH " + n + " of " + n, check(x, 0, BRANCH, n), 0);
            if (n > 0) {
                Expect.due("BRANCH 0 of " + n, check(x, 0, BRANCH, 0), -1);
                Expect.due("BRANCH " + (n - 1) + " of " + n, check(x, 0, BRANCH, n - 1), -1);
            }
        }
        ColourProof x = Graphs.complete(3);
        for (int bad : NO_VERTICES) {
            Expect.due("BRANCH " + bad + " behind a TRY", check(x, 2, BRANCH, 0, TRY, 0, BRANCH, bad), 2);
        }
    }

    private static void branchOfOneWithoutAColour() {
        Expect.by("BRANCH v, v being a vertex .. without a colour");
        ColourProof x = Graphs.of(3);
        Expect.due("BRANCH of one with a colour", check(x, 2, BRANCH, 0, TRY, 0, BRANCH, 0), 2);
        Expect.due("BRANCH of one without", check(x, 2, BRANCH, 0, TRY, 0, BRANCH, 1), 3);
        Expect.due("BRANCH of the first again",
                check(x, 2, BRANCH, 0, TRY, 0, BRANCH, 1, TRY, 0, BRANCH, 0), 4);
        Expect.due("BRANCH of the second again",
                check(x, 2, BRANCH, 0, TRY, 0, BRANCH, 1, TRY, 0, BRANCH, 1), 4);
        Expect.due("BRANCH when all have one",
                check(x, 2, BRANCH, 0, TRY, 0, BRANCH, 1, TRY, 0, BRANCH, 2, TRY, 0, BRANCH, 2), 6);
    }

    private static void coloursBelowK() {
        Expect.by("for each colour c from 0 on, as long as c is below k");
        Expect.due("k = 0 wants no colour", check(Graphs.of(1), 0, BRANCH, 0), -1);
        Expect.due("k = 0, TRY 0", check(Graphs.of(1), 0, BRANCH, 0, TRY, 0), 1);
        Expect.due("k = 1 wants the colour 0", check(Graphs.of(1), 1, BRANCH, 0), 1);
        Expect.due("k = 1, TRY 0", check(Graphs.of(1), 1, BRANCH, 0, TRY, 0), 2);
        // A way from 0 over 1 to 2 with k = 1: the second has the colour 0 alone to block.
        Expect.due("k = 1, BLOCK 0", check(Graphs.of(3, 0, 1, 1, 2), 1, BRANCH, 0, TRY, 0, BRANCH, 1, BLOCK, 0), -1);
        Expect.due("k = 1, BLOCK 0, TRY 1",
                check(Graphs.of(3, 0, 1, 1, 2), 1, BRANCH, 0, TRY, 0, BRANCH, 1, BLOCK, 0, TRY, 1), 4);
        Expect.due("k = 2, BLOCK 0",
                check(Graphs.of(3, 0, 1, 1, 2), 2, BRANCH, 0, TRY, 0, BRANCH, 1, BLOCK, 0), 4);
        Expect.due("k = 2, BLOCK 0, TRY 1",
                check(Graphs.of(3, 0, 1, 1, 2), 2, BRANCH, 0, TRY, 0, BRANCH, 1, BLOCK, 0, TRY, 1), 5);
        for (int k = 1; k <= 20; k++) {
            Expect.due("all edges, k = " + k, allBlocked(k + 1).check(k), -1);
            Expect.due("all edges, k = " + k + ", a TRY more", withLine(allBlocked(k + 1), TRY, k).check(k),
                    State.toldLines(allBlocked(k + 1)));
            Expect.due("all edges, a colour more than " + k, allBlocked(k + 1).check(k + 1),
                    State.toldLines(allBlocked(k + 1)));
        }
    }

    /** All edges of n vertices, with the proof for n - 1 colours that has no CLOSE. */
    private static ColourProof allBlocked(int n) {
        ColourProof x = Graphs.complete(n);
        for (int v = 0; v < n; v++) {
            x.tell(BRANCH, v);
            for (int w = 0; w < v; w++) {
                x.tell(BLOCK, w);
            }
            if (v < n - 1) {
                x.tell(TRY, v);
            }
        }
        return x;
    }

    private static ColourProof withLine(ColourProof x, int op, int number) {
        x.tell(op, number);
        return x;
    }

    private static void coloursNotAboveThoseThatStand() {
        Expect.by("and not above u");
        // u is 0 for the first vertex: it has the colour 0 to try, and no other, whatever k is.
        for (int k = 1; k <= 30; k++) {
            ColourProof x = Graphs.of(3);
            Expect.due("the first, check(" + k + ")", check(x, k, BRANCH, 0, TRY, 0), 2);
            Expect.due("the first, TRY 1, check(" + k + ")", check(x, k, BRANCH, 0, TRY, 1), 1);
        }
        // 0 stands apart and 1 to 4 are all neighbours: with three colours these are closed below the one TRY of 0.
        int[] four = {1, 2, 1, 3, 1, 4, 2, 3, 2, 4, 3, 4};
        Expect.due("no TRY 1 is wanted", check(Graphs.of(5, four), 3, BRANCH, 0, TRY, 0, CLOSE, 30), -1);
        Expect.due("no TRY 1 can stand", check(Graphs.of(5, four), 3, BRANCH, 0, TRY, 0, CLOSE, 30, TRY, 1), 3);
        // u is 1 for the second: the colours 0 and 1, not 2.
        int[] two = {BRANCH, 0, TRY, 0, BRANCH, 5, TRY, 0, CLOSE, 30, TRY, 1, CLOSE, 30};
        Expect.due("TRY 1 is wanted", check(Graphs.of(6, four), 3, BRANCH, 0, TRY, 0, BRANCH, 5, TRY, 0, CLOSE, 30), 5);
        Expect.due("no TRY 2 is wanted", check(Graphs.of(6, four), 3, two), -1);
        Expect.due("no TRY 2 can stand", withLine(Logs.tell(Graphs.of(6, four), two), TRY, 2).check(3), 7);
        // u counts colours, not vertices: two vertices of the colour 0 leave it at 1.
        int[] three = {BRANCH, 0, TRY, 0, BRANCH, 5, TRY, 0, BRANCH, 6, TRY, 0, CLOSE, 30, TRY, 1, CLOSE, 30,
            TRY, 1, CLOSE, 30};
        Expect.due("two of one colour", check(Graphs.of(7, four), 3, three), -1);
    }

    private static void coloursInOrder() {
        Expect.by("for each colour c .. in this order");
        int[] ends = {0, 1, 2, 3, 2, 4, 3, 4};
        Expect.due("0, then 1", check(Graphs.of(5, ends), 2, BRANCH, 2, TRY, 0, BRANCH, 0,
                TRY, 0, CLOSE, 24, TRY, 1, CLOSE, 24), -1);
        Expect.due("1 first", check(Graphs.of(5, ends), 2, BRANCH, 2, TRY, 0, BRANCH, 0,
                TRY, 1, CLOSE, 24, TRY, 0, CLOSE, 24), 3);
        Expect.due("0 twice", check(Graphs.of(5, ends), 2, BRANCH, 2, TRY, 0, BRANCH, 0,
                TRY, 0, CLOSE, 24, TRY, 0, CLOSE, 24), 5);
        Expect.due("BLOCK before TRY", check(Graphs.complete(3), 2, BRANCH, 0, TRY, 0, BRANCH, 1,
                BLOCK, 0, TRY, 1, BRANCH, 2, BLOCK, 0, BLOCK, 1), -1);
        Expect.due("TRY before BLOCK", check(Graphs.complete(3), 2, BRANCH, 0, TRY, 0, BRANCH, 1,
                TRY, 1, BRANCH, 2, BLOCK, 0, BLOCK, 1, BLOCK, 0), 3);
        Expect.due("BLOCKS the other way round", check(Graphs.complete(3), 2, BRANCH, 0, TRY, 0, BRANCH, 1,
                BLOCK, 0, TRY, 1, BRANCH, 2, BLOCK, 1, BLOCK, 0), 6);
    }

    private static void blockByANeighbour() {
        Expect.by("BLOCK w, w being a NEIGHBOUR of v");
        // 0 and 1 have the colour 0; 3 has 0 alone as a neighbour of that colour.
        int[] told = {BRANCH, 0, TRY, 0, BRANCH, 1, TRY, 0, BRANCH, 3, BLOCK, 0};
        ColourProof x = Logs.tell(Graphs.of(4, 0, 3), told);
        Expect.due("BLOCK 0", x.check(1), -1);
        x.alter(5, BLOCK, 1);
        Expect.due("BLOCK 1, which has the colour and is no neighbour", x.check(1), 5);
        x.alter(5, BLOCK, 3);
        Expect.due("BLOCK 3, which is the branch's own", x.check(1), 5);
        x.alter(5, BLOCK, 4);
        Expect.due("BLOCK 4, which is no vertex", x.check(1), 5);
        for (int bad : NO_VERTICES) {
            x.alter(5, BLOCK, bad);
            Expect.due("BLOCK " + bad, x.check(1), 5);
        }
    }

    private static void blockByTheColour() {
        Expect.by("w being a NEIGHBOUR of v with the colour c");
        int[] told = {BRANCH, 0, TRY, 0, BRANCH, 1, BLOCK, 0, TRY, 1, BRANCH, 2, BLOCK, 0, BLOCK, 1};
        ColourProof x = Logs.tell(Graphs.complete(4), told);
        Expect.due("BLOCK 0, BLOCK 1", x.check(2), -1);
        x.alter(7, BLOCK, 0);
        Expect.due("BLOCK 0 for the colour 1", x.check(2), 7);
        x.alter(6, BLOCK, 1);
        Expect.due("BLOCK 1 for the colour 0", x.check(2), 6);
        x.alter(6, BLOCK, 3);
        Expect.due("BLOCK 3, which has no colour", x.check(2), 6);
    }

    /** The triangle of 4, 5 and 6 is closed everywhere; 3 is a neighbour of 1 and of 2, which has colours at times. */
    private static void blockByAColourThatIsGone() {
        Expect.by("w being a NEIGHBOUR of v with the colour c (in the COLOURING there, not in one before)");
        int[] ends = {3, 1, 3, 2, 4, 5, 4, 6, 5, 6};
        // 2 has the colours 0 and 1 below the TRY 0 of 1; 3 is branched on below its TRY 1.
        int[] told = {BRANCH, 0, TRY, 0, BRANCH, 1, TRY, 0, BRANCH, 2, TRY, 0, CLOSE, 112, TRY, 1, CLOSE, 112,
            TRY, 1, BRANCH, 3, TRY, 0, CLOSE, 112, BLOCK, 1};
        ColourProof x = Logs.tell(Graphs.of(7, ends), told);
        Expect.due("BLOCK 1, which has the colour 1", x.check(2), -1);
        x.alter(13, BLOCK, 2);
        Expect.due("BLOCK 2, which had the colour 1", x.check(2), 13);
        // 2 has the colours 0 and 1 below the TRY 0 of 0; 3 is branched on below its TRY 1, and 1 has the colour 0.
        told = new int[] {BRANCH, 1, TRY, 0, BRANCH, 0, TRY, 0, BRANCH, 2, TRY, 0, CLOSE, 112, TRY, 1, CLOSE, 112,
            TRY, 1, BRANCH, 3, BLOCK, 1, TRY, 1, CLOSE, 112};
        x = Logs.tell(Graphs.of(7, ends), told);
        Expect.due("BLOCK 1, which has the colour 0", x.check(2), -1);
        x.alter(11, BLOCK, 2);
        Expect.due("BLOCK 2, which had the colours 0 and 1", x.check(2), 11);
    }

    private static void blockByAny() {
        Expect.by("BLOCK w, w being a NEIGHBOUR (any one, not the least alone)");
        for (int w = 0; w < 3; w++) {
            Expect.due("BLOCK " + w, check(Graphs.of(4, 0, 3, 1, 3, 2, 3), 1, BRANCH, 0, TRY, 0, BRANCH, 1, TRY, 0,
                    BRANCH, 2, TRY, 0, BRANCH, 3, BLOCK, w), -1);
        }
    }

    private static void tryIfNoneHasIt() {
        Expect.by("or, if no NEIGHBOUR of v has c, TRY c");
        ColourProof x = Graphs.of(3, 0, 1, 1, 2, 0, 2);
        Expect.due("TRY of what a neighbour has", check(x, 2, BRANCH, 0, TRY, 0, BRANCH, 1, TRY, 0), 3);
        Expect.due("BLOCK of what one has", check(x, 2, BRANCH, 0, TRY, 0, BRANCH, 1, BLOCK, 0), 4);
        Expect.due("BLOCK of what none has", check(x, 2, BRANCH, 0, TRY, 0, BRANCH, 1, BLOCK, 0, BLOCK, 2), 4);
        Expect.due("TRY of what none has", check(x, 2, BRANCH, 0, TRY, 0, BRANCH, 1, BLOCK, 0, TRY, 1), 5);
        for (int bad : new int[] {-1, 0, 2, 3, 33, Integer.MIN_VALUE, Integer.MAX_VALUE}) {
            Expect.due("TRY " + bad + " for TRY 1",
                    check(x, 2, BRANCH, 0, TRY, 0, BRANCH, 1, BLOCK, 0, TRY, bad, CLOSE, 4), 4);
        }
        Expect.due("BRANCH where a colour is due", check(x, 2, BRANCH, 0, BRANCH, 1), 1);
        Expect.due("CLOSE where a colour is due", check(x, 2, BRANCH, 0, CLOSE, 7), 1);
        // One that has the colour and is no neighbour does not keep from a TRY.
        Expect.due("TRY of what another has", check(Graphs.of(2), 1, BRANCH, 0, TRY, 0, BRANCH, 1, TRY, 0), 4);
    }

    private static void tryThenAProof() {
        Expect.by("TRY c and behind it a PROOF");
        ColourProof x = Graphs.of(5, 2, 3, 2, 4, 3, 4);
        Expect.due("CLOSE", check(x, 2, BRANCH, 0, TRY, 0, CLOSE, 28), -1);
        Expect.due("no proof", check(x, 2, BRANCH, 0, TRY, 0), 2);
        Expect.due("TRY", check(x, 2, BRANCH, 0, TRY, 0, TRY, 1), 2);
        Expect.due("BLOCK", check(x, 2, BRANCH, 0, TRY, 0, BLOCK, 0), 2);
        Expect.due("BRANCH", check(x, 2, BRANCH, 0, TRY, 0, BRANCH, 1), 3);
        // What the BRANCH wants for its next colour can't come before the proof.
        Expect.due("the next TRY", check(x, 2, BRANCH, 0, TRY, 0, BRANCH, 1, TRY, 0, TRY, 1, CLOSE, 28), 4);
        Expect.due("the next BLOCK", check(Graphs.of(5, 0, 1, 1, 2, 2, 3, 2, 4, 3, 4), 2, BRANCH, 0, TRY, 0,
                BRANCH, 2, TRY, 0, BRANCH, 1, BLOCK, 0, TRY, 1, BLOCK, 0), 7);
        // All 30 get colours one behind the other: there is nothing left that could stand.
        x = Graphs.of(30);
        for (int v = 29; v >= 0; v--) {
            x.tell(BRANCH, v);
            x.tell(TRY, 0);
        }
        for (int op = 1; op <= 4; op++) {
            x.tell(op, 0);
            Expect.due("op " + op + " when all have colours", x.check(30), 60);
            x.cut(60);
        }
        Expect.due("the end when all have colours", x.check(30), 60);
    }

    private static void triedVertexHasTheColourInItsProofAlone() {
        Expect.by("the COLOURING in which v has c, too");
        // The triangle of 2, 3 and 4 is closed everywhere; 1 sees a colour of 0 below the TRY of that one alone.
        int[] ends = {0, 1, 2, 3, 2, 4, 3, 4};
        int[] told = {BRANCH, 2, TRY, 0, BRANCH, 0, TRY, 0, BRANCH, 1, BLOCK, 0, TRY, 1, CLOSE, 24,
            TRY, 1, BRANCH, 1, TRY, 0, CLOSE, 24, BLOCK, 0};
        ColourProof x = Logs.tell(Graphs.of(5, ends), told);
        Expect.due("each TRY has colours of its own", x.check(2), -1);
        x.alter(10, BLOCK, 0);
        Expect.due("the colour of the TRY before is gone", x.check(2), 10);
        x.alter(5, TRY, 0);
        Expect.due("the colour of the TRY is there", x.check(2), 5);
    }

    private static void rightForK() {
        Expect.by("A LOG is RIGHT for k if it is a PROOF for k and the COLOURING without colours");
        ColourProof x = Graphs.ring(5);
        x.search(2);
        Expect.due("check(2)", x.check(2), -1);
        Expect.due("check(1), with a line that is too much", x.check(1), 4);
        Expect.due("check(3), with a colour that is free", x.check(3), 7);
        // The checks before leave no colours behind.
        Expect.due("check(2) again", x.check(2), -1);
    }

    private static void wrongLineIsTheFirst() {
        Expect.by("its WRONG LINE is the first one that can't stand where it stands");
        int[] right = {BRANCH, 0, TRY, 0, BRANCH, 1, BLOCK, 0, TRY, 1, BRANCH, 2, TRY, 0, CLOSE, 24, BLOCK, 1};
        ColourProof x = Logs.tell(Graphs.ring(5), right);
        Expect.due("all lines", x.check(2), -1);
        // From the end on more and more lines can't stand; the first of them is answered.
        for (int i = right.length / 2 - 1; i >= 0; i--) {
            x.alter(i, BLOCK, -1);
            Expect.due("line " + i + " and those behind it", x.check(2), i);
        }
    }

    private static void whatIsBehindCountsNothing() {
        Expect.by("whether a PROOF could come of what is behind it counts nothing");
        // Two colours do for two neighbours, so no proof can come; the lines can stand until they want one.
        Expect.due("two neighbours", check(Graphs.complete(2), 2, BRANCH, 0, TRY, 0, BRANCH, 1, BLOCK, 0, TRY, 1), 5);
        Expect.due("two neighbours, CLOSE 1",
                check(Graphs.complete(2), 2, BRANCH, 0, TRY, 0, BRANCH, 1, BLOCK, 0, TRY, 1, CLOSE, 1), 5);
        Expect.due("BRANCH alone", check(Graphs.of(30), 30, BRANCH, 29), 1);
        Expect.due("CLOSE that can't stand though another could", check(Graphs.complete(3), 2, CLOSE, 3), 0);
        // A line that could not stand is wrong, though a proof stands behind it.
        Expect.due("a proof behind a wrong line", check(Graphs.complete(3), 2, CLOSE, 3, CLOSE, 7), 0);
    }

    private static void endsTooSoon() {
        Expect.by("if each LINE can stand, but the LOG ends too soon, it is the number of LINES");
        for (int k = 0; k <= 30; k++) {
            Expect.due("no lines, no vertices, check(" + k + ")", new ColourProof().check(k), 0);
            Expect.due("no lines, check(" + k + ")", Graphs.complete(30).check(k), 0);
        }
        ColourProof x = Graphs.ring(5);
        x.search(2);
        for (int n = 8; n >= 0; n--) {
            x.cut(n);
            Expect.due("the first " + n + " lines", x.check(2), n);
        }
        x = Graphs.fullLog();
        Expect.due("3,000 lines", x.check(6), -1);
        x.cut(2999);
        Expect.due("the first 2,999 lines", x.check(6), 2999);
        // 3,000 lines that end too soon: the wrong line is one that no told log can have.
        x = Graphs.foundJustInTime();
        x.search(8);
        Expect.due("3,000 lines of a search that found something", x.check(8), 3000);
    }

    private static void linesBehind() {
        Expect.by("of a LOG behind whose PROOF more LINES stand the first of these");
        for (int op = 1; op <= 4; op++) {
            for (int number : new int[] {-1, 0, 1, 3, 7}) {
                ColourProof x = Logs.tell(Graphs.complete(3), CLOSE, 7, op, number);
                Expect.due("a line behind", x.check(2), 1);
                x.tell(CLOSE, 7);
                Expect.due("two lines behind", x.check(2), 1);
            }
        }
        Expect.due("behind BRANCH with k = 0", check(Graphs.of(1), 0, BRANCH, 0, BRANCH, 0), 1);
        Expect.due("behind BLOCK", check(Graphs.complete(2), 1, BRANCH, 0, TRY, 0, BRANCH, 1, BLOCK, 0, BLOCK, 0), 4);
        ColourProof x = Graphs.fullLog();
        x.cut(2998);
        x.tell(BLOCK, -1);
        Expect.due("not behind", x.check(6), 2998);
        x = Graphs.justFits();
        x.search(5);
        int lines = State.toldLines(x);
        x.tell(CLOSE, 1);
        Expect.due("behind a long proof", x.check(5), lines);
    }
}
