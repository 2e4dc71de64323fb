/** Terms, 3: the boundary cases that its sentences on the clique, searches and solve() name, a test for each. */
public final class Terms3Test {
    private static final int BRANCH = Logs.BRANCH;
    private static final int BLOCK = Logs.BLOCK;
    private static final int TRY = Logs.TRY;
    private static final int CLOSE = Logs.CLOSE;

    public static void main(String[] args) {
        cliqueByFallingDegree();
        cliqueTakesTheLeastFirst();
        cliqueOfNeighboursOfAll();
        firstColouringGivesTheLeastColour();
        firstColouringWithoutVertices();
        searchBeginsEmpty();
        searchFindsAtOnce();
        closeGoesBySaturation();
        closeGoesByDegree();
        closeGoesByTheLeast();
        closeAsSoonAsItCan();
        closeTakesNeighboursOfAllTaken();
        coloursBelowK();
        coloursNotAboveThoseThatStand();
        blockIsTheLeast();
        colourGoesOnTheWayBack();
        otherColoursStayOnTheWayBack();
        nothingFoundIsRight();
        noSearchWhereFirstIsTheClique();
        searchAboveTheClique();
        foundIsTheBest();
        kFallsToTheClique();
        lastLogIsTheLog();
        emptyLogIfKIsNone();
        linesUpToTheLimit();
        oneLineTooMany();
        limitIsOfEachSearch();
        likeTheReference();
        Expect.end();
    }

    private static void found(ColourProof x, int k, int answer, int... lines) {
        Expect.due("search(" + k + ")", x.search(k), answer);
        Logs.due("search(" + k + ")", x, lines);
    }

    private static void cliqueByFallingDegree() {
        Expect.by("vertices are gone over by falling DEGREE");
        Expect.due("the star of 3 before the triangle of 0, 1, 2",
                Graphs.of(7, 0, 1, 0, 2, 1, 2, 3, 4, 3, 5, 3, 6).clique(), 8 + 16);
        // 3 and 6 are neighbours of the star's middle; 6 has another neighbour and so the greater degree.
        Expect.due("the second by degree, too", Graphs.of(8, 0, 3, 0, 4, 0, 6, 6, 7).clique(), 1 + 64);
    }

    private static void cliqueTakesTheLeastFirst() {
        Expect.by("of several the least first");
        Expect.due("without edges", Graphs.of(30).clique(), 1);
        Expect.due("of two pairs", Graphs.of(4, 0, 1, 2, 3).clique(), 3);
        Expect.due("of a ring", Graphs.ring(30).clique(), 3);
        Expect.due("of a pair behind", Graphs.of(30, 28, 29).clique(), 3 << 28);
    }

    private static void cliqueOfNeighboursOfAll() {
        Expect.by("each that is a NEIGHBOUR of all that were taken is taken");
        for (int n = 0; n <= 30; n++) {
            Expect.due("all edges of " + n, Graphs.complete(n).clique(), (1 << n) - 1);
        }
        ColourProof x = Graphs.complete(30);
        x.edge(0, 29, false);
        // 0 and 29 come last by degree; 0 is taken, and 29 is a neighbour of all that were taken but it.
        Expect.due("all edges but 0 - 29", x.clique(), (1 << 29) - 1);
        // One that can't be taken does not end the walk.
        int[] ends = {0, 1, 0, 2, 0, 3, 0, 4, 1, 5, 1, 6, 2, 3, 2, 4, 1, 4};
        Expect.due("4, behind 2, which is no neighbour of 1", Graphs.of(7, ends).clique(), 1 + 2 + 16);
    }

    private static void firstColouringGivesTheLeastColour() {
        Expect.by("CHOICE gets the least colour that no NEIGHBOUR has");
        for (int n = 0; n <= 30; n++) {
            ColourProof x = Graphs.complete(n);
            Expect.due("first() of all edges of " + n, x.first(), n);
            x.solve();
            for (int v = 0; v < n; v++) {
                Expect.due("colour(" + v + ")", x.colour(v), v);
            }
        }
        ColourProof x = Graphs.of(30);
        Expect.due("first() without edges", x.first(), 1);
        x.solve();
        Expect.due("colour(29)", x.colour(29), 0);
        // The middle gets 0 and all others 1.
        x = Graphs.of(30);
        for (int v = 0; v < 29; v++) {
            x.edge(v, 29, true);
        }
        Expect.due("first() of a star", x.first(), 2);
        x.solve();
        Expect.due("colour(29)", x.colour(29), 0);
        Expect.due("colour(28)", x.colour(28), 1);
    }

    private static void firstColouringWithoutVertices() {
        Expect.by("as long as there is a vertex without a colour");
        Expect.due("first() without vertices", new ColourProof().first(), 0);
        Expect.due("first() of one vertex", Graphs.of(1).first(), 1);
    }

    private static void searchBeginsEmpty() {
        Expect.by("A SEARCH with k colours begins with the COLOURING without colours and an empty LOG");
        ColourProof x = Graphs.ring(5);
        x.solve();
        x.search(3);
        int lines = State.toldLines(x);
        x.tell(TRY, 5);
        Expect.due("search(3) again", x.search(3), 1);
        Expect.due("its lines", State.toldLines(x), lines);
        // Those that an earlier search has coloured have no colour in the next.
        found(x, 0, 0, CLOSE, 1);
        found(x, 1, 0, CLOSE, 3);
    }

    private static void searchFindsAtOnce() {
        Expect.by("if it is WHOLE, it is FOUND, and all ends");
        for (int k = 0; k <= 30; k++) {
            found(new ColourProof(), k, 1);
        }
        found(Graphs.of(1), 0, 0, CLOSE, 1);
        for (int k = 1; k <= 30; k++) {
            found(Graphs.of(1), k, 1, BRANCH, 0, TRY, 0);
        }
        // 1 has the colours 1 and 2 to try, and is not tried with 2 when all is found with 1.
        found(Graphs.complete(2), 3, 1, BRANCH, 0, TRY, 0, BRANCH, 1, BLOCK, 0, TRY, 1);
    }

    private static void closeGoesBySaturation() {
        Expect.by("gone over by falling SATURATION");
        // 0 and 5 see a colour, the triangle sees none: though its degrees are greater, it is not closed before.
        found(Graphs.of(6, 0, 1, 1, 5, 2, 3, 2, 4, 3, 4), 2, 0, BRANCH, 1, TRY, 0, BRANCH, 0, BLOCK, 1, TRY, 1,
                BRANCH, 5, BLOCK, 1, TRY, 1, CLOSE, 28);
        // At the end 2 and 3 see the colour 0 once, and 5 sees it by two neighbours: they come before it.
        found(Graphs.of(6, 0, 1, 0, 4, 1, 3, 1, 5, 2, 3, 2, 4, 4, 5), 2, 0, BRANCH, 1, TRY, 0, BRANCH, 0, BLOCK, 1,
                TRY, 1, BRANCH, 4, TRY, 0, CLOSE, 12, BLOCK, 0);
    }

    private static void closeGoesByDegree() {
        Expect.by("of several by falling DEGREE");
        found(Graphs.of(3, 1, 2), 1, 0, CLOSE, 6);
        // By neighbours without a colour 3 and 4 would come before 1 behind TRY 0, and be closed.
        found(Graphs.of(6, 0, 2, 0, 5, 1, 2, 1, 5, 2, 3, 3, 4, 4, 5), 2, 0, BRANCH, 2, TRY, 0, BRANCH, 0, BLOCK, 2,
                TRY, 1, BRANCH, 5, TRY, 0, BRANCH, 3, BLOCK, 2, TRY, 1, CLOSE, 16, BLOCK, 0);
    }

    private static void closeGoesByTheLeast() {
        Expect.by("of several the least first");
        found(Graphs.of(4, 0, 1, 2, 3), 1, 0, CLOSE, 3);
        found(Graphs.of(30), 0, 0, CLOSE, 1);
        found(Graphs.complete(30), 0, 0, CLOSE, 1);
    }

    private static void closeAsSoonAsItCan() {
        Expect.by("as soon as fewer colours are FREE .. than these are: CLOSE (all that are taken)");
        for (int k = 0; k < 30; k++) {
            found(Graphs.complete(30), k, 0, CLOSE, (2 << k) - 1);
        }
        Expect.due("search(30) of all edges", Graphs.complete(30).search(30), 1);
    }

    private static void closeTakesNeighboursOfAllTaken() {
        Expect.by("each that is a NEIGHBOUR of all taken ones is taken");
        // 0, 1, 2 are taken by degree; 3 is a neighbour of 0 and 1 alone, so that there is nothing to close for three.
        ColourProof x = Graphs.of(4, 0, 1, 0, 2, 0, 3, 1, 2, 1, 3);
        found(x, 2, 0, CLOSE, 7);
        Expect.due("search(3)", x.search(3), 1);
        x.edge(2, 3, true);
        found(x, 3, 0, CLOSE, 15);
    }

    private static void coloursBelowK() {
        Expect.by("for each colour c from 0 on, below k");
        // With two colours 2 has 0 to try, 1 blocked, and no more; with three 4 has 0 and 1 blocked, and gets 2.
        ColourProof x = Graphs.ring(5);
        found(x, 2, 0, BRANCH, 0, TRY, 0, BRANCH, 1, BLOCK, 0, TRY, 1, BRANCH, 2, TRY, 0, CLOSE, 24, BLOCK, 1);
        found(x, 3, 1, BRANCH, 0, TRY, 0, BRANCH, 1, BLOCK, 0, TRY, 1, BRANCH, 2, TRY, 0, BRANCH, 3, BLOCK, 2,
                TRY, 1, BRANCH, 4, BLOCK, 0, BLOCK, 3, TRY, 2);
        Expect.due("search(1) without edges", Graphs.of(30).search(1), 1);
    }

    private static void coloursNotAboveThoseThatStand() {
        Expect.by("and not above the number of colours that stand");
        // The first has the colour 0 alone to try, though two are below k.
        found(Graphs.of(5, 0, 1, 0, 2, 1, 4, 2, 3, 3, 4), 2, 0, BRANCH, 0, TRY, 0, BRANCH, 1, BLOCK, 0, TRY, 1,
                BRANCH, 2, BLOCK, 0, TRY, 1, CLOSE, 24);
    }

    private static void blockIsTheLeast() {
        Expect.by("if a NEIGHBOUR of it has c: BLOCK (the least such)");
        found(Graphs.of(4, 0, 2, 0, 3, 1, 2, 1, 3), 2, 1, BRANCH, 0, TRY, 0, BRANCH, 2, BLOCK, 0, TRY, 1, BRANCH, 1,
                TRY, 0, BRANCH, 3, BLOCK, 0, TRY, 1);
    }

    /** The triangle of 0, 1 and 2 gets its colours first; 3 then is wrong with the colour 0 and good with 2. */
    private static void colourGoesOnTheWayBack() {
        Expect.by("when one comes back from there it has no colour");
        found(Graphs.of(7, 0, 1, 0, 2, 1, 2, 1, 6, 2, 3, 3, 4, 3, 5, 4, 5, 4, 6, 5, 6), 3, 1,
                BRANCH, 1, TRY, 0, BRANCH, 2, BLOCK, 1, TRY, 1, BRANCH, 0, BLOCK, 1, BLOCK, 2, TRY, 2,
                BRANCH, 3, TRY, 0, CLOSE, 112, BLOCK, 2, TRY, 2, BRANCH, 4, TRY, 0, BRANCH, 5, BLOCK, 4, TRY, 1,
                BRANCH, 6, BLOCK, 1, BLOCK, 5, TRY, 2);
    }

    private static void otherColoursStayOnTheWayBack() {
        Expect.by("when one comes back from there it has no colour (and the others keep theirs)");
        // 3 gives back its colour 1, and 5 is still blocked by the same colour of 1.
        found(Graphs.of(6, 0, 1, 0, 2, 0, 4, 1, 5, 2, 5, 3, 4, 3, 5), 2, 0, BRANCH, 0, TRY, 0, BRANCH, 1, BLOCK, 0,
                TRY, 1, BRANCH, 5, TRY, 0, BRANCH, 3, BLOCK, 5, TRY, 1, CLOSE, 16, BLOCK, 1);
    }

    private static void nothingFoundIsRight() {
        Expect.by("From the first COLOURING back: nothing is FOUND, the LOG is RIGHT for k");
        for (int seed = 0; seed < 60; seed++) {
            ColourProof x = Graphs.drawn(12, seed, 10 + seed);
            for (int k = 0; k <= 12; k++) {
                int found = x.search(k);
                String call = "draw(" + seed + ", " + (10 + seed) + "), search(" + k + ")";
                Expect.due(call + ", check(" + k + ") is right", x.check(k) == -1, found == 0);
                Expect.due(call + " ends too soon", x.check(k) == State.toldLines(x), found == 1);
            }
        }
    }

    private static void work(ColourProof x, int... work) {
        for (int what = 0; what < work.length; what++) {
            Expect.due("work(" + what + ")", x.work(what), work[what]);
        }
    }

    private static void noSearchWhereFirstIsTheClique() {
        Expect.by("When K is that number: THE LOG is the one LINE CLOSE (THE CLIQUE)");
        for (int n = 1; n <= 30; n++) {
            ColourProof x = Graphs.complete(n);
            Expect.due("solve() of all edges of " + n, x.solve(), n);
            Expect.due("lines()", x.lines(), 1);
            Expect.due("line(0, 0)", x.line(0, 0), CLOSE);
            Expect.due("line(0, 1)", x.line(0, 1), (1 << n) - 1);
            work(x, 0, 0, 0, 0, 0);
        }
        ColourProof x = Graphs.of(30);
        Expect.due("solve() without edges", x.solve(), 1);
        Expect.due("line(0, 1)", x.line(0, 1), 1);
        work(x, 0, 0, 0, 0, 0);
    }

    private static void searchAboveTheClique() {
        Expect.by("As long as K is above the number of vertices in THE CLIQUE: a SEARCH with K - 1 colours");
        // The ring of five has three colours and a clique of two: one above.
        ColourProof x = Graphs.ring(5);
        Expect.due("solve()", x.solve(), 3);
        work(x, 1, 9, 3, 1, 0);
        x.take();
        Logs.due("take()", x, BRANCH, 0, TRY, 0, BRANCH, 1, BLOCK, 0, TRY, 1, BRANCH, 2, TRY, 0, CLOSE, 24, BLOCK, 1);
        // Without 4 - 0 it is a way of two colours: none above.
        x.edge(4, 0, false);
        Expect.due("solve() of the way", x.solve(), 2);
        work(x, 0, 0, 0, 0, 0);
        Expect.due("lines()", x.lines(), 1);
    }

    private static void foundIsTheBest() {
        Expect.by("what is FOUND is THE BEST, K the number of its colours, and so on");
        ColourProof x = Graphs.drawn(8, 37, 45);
        Expect.due("first()", x.first(), 4);
        Expect.due("solve()", x.solve(), 3);
        work(x, 2, 27, 9, 2, 1);
        x.copy();
        Expect.due("clashes() of THE BEST", x.clashes(), 0);
        Expect.due("used() of THE BEST", x.used(), 3);
        Expect.due("lines()", x.lines(), 3);
        // Twice found, and then nothing.
        x = Graphs.drawn(13, 280, 45);
        Expect.due("first()", x.first(), 6);
        Expect.due("solve()", x.solve(), 4);
        work(x, 3, 120, 32, 3, 2);
        x.copy();
        Expect.due("clashes() of THE BEST", x.clashes(), 0);
        Expect.due("used() of THE BEST", x.used(), 4);
        Expect.due("lines()", x.lines(), 6);
    }

    private static void kFallsToTheClique() {
        Expect.by("When K is that number (by what was FOUND)");
        ColourProof x = Graphs.drawn(7, 745, 50);
        Expect.due("first()", x.first(), 4);
        Expect.due("solve()", x.solve(), 3);
        Expect.due("lines()", x.lines(), 1);
        Expect.due("line(0, 0)", x.line(0, 0), CLOSE);
        Expect.due("line(0, 1)", x.line(0, 1), x.clique());
        work(x, 1, 26, 8, 1, 1);
        x = Graphs.drawn(12, 736, 55);
        Expect.due("first()", x.first(), 6);
        Expect.due("solve()", x.solve(), 4);
        Expect.due("lines()", x.lines(), 1);
        Expect.due("line(0, 1)", x.line(0, 1), x.clique());
        work(x, 2, 95, 24, 2, 2);
    }

    private static void lastLogIsTheLog() {
        Expect.by("if nothing is FOUND, its LOG is THE LOG");
        for (int[] drawn : new int[][] {{8, 37, 45}, {8, 40, 75}, {13, 280, 45}, {14, 731, 65}}) {
            ColourProof x = Graphs.drawn(drawn[0], drawn[1], drawn[2]);
            int colours = x.solve();
            int lines = x.lines();
            x.search(colours - 1);
            Expect.due("lines of search(K - 1)", State.toldLines(x), lines);
            for (int i = 0; i < lines; i++) {
                Expect.due("line(" + i + ", 0)", x.line(i, 0), x.told(i, 0));
                Expect.due("line(" + i + ", 1)", x.line(i, 1), x.told(i, 1));
            }
        }
    }

    private static void emptyLogIfKIsNone() {
        Expect.by("empty if K is 0");
        ColourProof x = Graphs.told(new ColourProof());
        Expect.due("solve()", x.solve(), 0);
        Expect.due("lines()", x.lines(), 0);
        Expect.due("line(0, 0)", x.line(0, 0), -1);
        Expect.due("take()", x.take(), 0);
        x.graph(1);
        Expect.due("solve() of one vertex", x.solve(), 1);
        Expect.due("lines()", x.lines(), 1);
        x.graph(0);
        Expect.due("solve() of none again", x.solve(), 0);
        Expect.due("lines()", x.lines(), 0);
    }

    private static void linesUpToTheLimit() {
        Expect.by("If a SEARCH would write a 3,001st LINE (3,000 can be written)");
        fits("3,000 lines, the last a BLOCK", Graphs.justFits(), 6, BLOCK);
        fits("3,000 lines, the last a CLOSE", Graphs.closeJustFits(), 13, CLOSE);
        ColourProof x = Graphs.foundJustInTime();
        Expect.due("search(8) that finds something behind 3,000", x.search(8), 1);
        Expect.due("its lines", State.toldLines(x), 3000);
        Expect.due("the last", x.told(2999, 0), TRY);
        Expect.due("solve()", x.solve(), 8);
        Expect.due("lines()", x.lines(), 298);
        work(x, 2, 3298, 376, 81, 1);
    }

    private static void fits(String name, ColourProof x, int k, int last) {
        Expect.due(name + ": search(" + k + ")", x.search(k), 0);
        Expect.due(name + ": its lines", State.toldLines(x), 3000);
        Expect.due(name + ": the last", x.told(2999, 0), last);
        Expect.due(name + ": check(" + k + ")", x.check(k), -1);
        Expect.due(name + ": solve()", x.solve(), k + 1);
        Expect.due(name + ": lines()", x.lines(), 3000);
        Expect.due(name + ": line(2999, 0)", x.line(2999, 0), last);
        Expect.due(name + ": line(3000, 0)", x.line(3000, 0), -1);
        Expect.due(name + ": work(1)", x.work(1), 3000);
    }

    private static void oneLineTooMany() {
        Expect.by("If a SEARCH would write a 3,001st LINE: solve() is refused, and nothing is solved");
        doesNotFit("the 3,001st is a BLOCK", Graphs.justTooLong(), 6);
        doesNotFit("the 3,001st is a CLOSE", Graphs.closeJustTooLong(), 7);
        doesNotFit("the 3,001st is a TRY that finds", Graphs.foundJustTooLate(), 8);
        doesNotFit("the 3,001st is a TRY", Graphs.tryTooLate(), 11);
        doesNotFit("the 3,001st is a BRANCH", Graphs.branchTooLate(), 6);
        // The first SEARCH finds something, a later one is too long.
        ColourProof x = Graphs.drawn(30, 2944, 40);
        int colours = x.first();
        Expect.due("the first search finds something", x.search(colours - 1), 1);
        Expect.due("the next is too long", x.search(colours - 2), -3);
        doesNotFit("found, then too long", x, colours - 2);
    }

    private static void doesNotFit(String name, ColourProof x, int k) {
        Expect.due(name + ": search(" + k + ")", x.search(k), -3);
        Expect.due(name + ": solve()", x.solve(), -3);
        Expect.due(name + ": lines()", x.lines(), -2);
        Expect.due(name + ": line(0, 0)", x.line(0, 0), -2);
        Expect.due(name + ": colour(0)", x.colour(0), -2);
        Expect.due(name + ": work(0)", x.work(0), -2);
        Expect.due(name + ": take()", x.take(), -2);
        Expect.due(name + ": copy()", x.copy(), -2);
        Expect.due(name + ": solve() again", x.solve(), -3);
    }

    private static void limitIsOfEachSearch() {
        Expect.by("If a SEARCH would write a 3,001st LINE (one SEARCH, not all together)");
        ColourProof x = Graphs.drawn(30, 19666, 38);
        Expect.due("solve()", x.solve(), 6);
        Expect.due("lines()", x.lines(), 2848);
        work(x, 2, 3077, 506, 90, 1);
        // Again and again, the counts begin anew.
        Expect.due("solve() again", x.solve(), 6);
        work(x, 2, 3077, 506, 90, 1);
    }

    /** The graphs at the limit, told a second time, so that it is not this class alone that says where they stand. */
    private static void likeTheReference() {
        Expect.by("a 3,001st LINE, by the Reference");
        int[][] graphs = {{4687, 40, 23, 24, 6}, {6858, 38, 13, 23, 6}, {171272, 82, 1, 15, 13},
            {199516, 54, 17, 15, 7}, {11531, 62, 1, 2, 8}, {11531, 62, 1, 1, 8}, {11852, 40, 17, 16, 6},
            {822, 80, 23, 12, 11}};
        int[][] ends = {{0, 3000, BLOCK}, {0, 3001, BLOCK}, {0, 3000, CLOSE}, {0, 3001, CLOSE},
            {1, 3000, TRY}, {1, 3001, TRY}, {0, 3146, BRANCH}, {0, 3135, TRY}};
        for (int i = 0; i < graphs.length; i++) {
            Reference y = new Reference(4000);
            y.graph(30);
            y.draw(graphs[i][0], graphs[i][1]);
            y.turn(graphs[i][2], graphs[i][3]);
            String name = "graph " + i;
            Expect.due(name + ": search", y.search(graphs[i][4]), ends[i][0]);
            Expect.due(name + ": lines", y.toldLines(), ends[i][1]);
            Expect.due(name + ": line at the limit", y.told(Math.min(ends[i][1], 3001) - 1, 0), ends[i][2]);
        }
    }
}
