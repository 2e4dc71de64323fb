import java.util.EnumSet;
import java.util.List;
import java.util.function.Supplier;

/** Promises 9 to 16: each sentence of theirs that names a boundary case has a test here. */
public final class BoundsSolvingTest {
    private static final int MIN = Integer.MIN_VALUE;
    private static final int MAX = Integer.MAX_VALUE;

    public static void main(String[] args) {
        solveAnswersK();
        solveIsFull();
        colourInTheBest();
        colourRefusesNoVertex();
        colourUnsolved();
        cliqueWithoutVertices();
        cliqueOfTheGraphAsItIs();
        firstOfTheGraphAsItIs();
        linesOfTheLog();
        linesUnsolved();
        lineAtItsEnds();
        lineUnsolved();
        lineRefusesNoLine();
        lineRefusesAnotherWhat();
        workOfSolve();
        workUnsolved();
        workRefusesAnotherWhat();
        searchFindsOrNot();
        searchLinesBecomeTheToldLog();
        searchThatFoundKeepsItsLines();
        searchRefusesNumbers();
        searchIsFull();
        searchKeepsWhatIsSolved();
        noSearchIsFullWhereSomethingIsSolved();
        Expect.end();
    }

    private static void solveAnswersK() {
        Expect.by("solve: Solves: K");
        Expect.due("no vertices", new ColourProof().solve(), 0);
        Expect.due("one vertex", Graphs.of(1).solve(), 1);
        Expect.due("30 without edges", Graphs.of(30).solve(), 1);
        Expect.due("30 with one edge", Graphs.of(30, 28, 29).solve(), 2);
        Expect.due("30 with all edges", Graphs.complete(30).solve(), 30);
        ColourProof x = Graphs.complete(30);
        x.edge(0, 29, false);
        Expect.due("30 with all edges but one", x.solve(), 29);
        for (int n = 3; n <= 30; n++) {
            Expect.due("ring of " + n, Graphs.ring(n).solve(), 2 + n % 2);
        }
    }

    private static void solveIsFull() {
        Expect.by("solve: FULL: as told above");
        Expect.due("3,000 lines", Graphs.justFits().solve(), 7);
        Expect.due("3,001 lines", Graphs.justTooLong().solve(), -3);
        Supplier<ColourProof> tooLong = () -> Graphs.told(Graphs.justTooLong());
        Calls.changesNothing("solve()", tooLong, ColourProof::solve, -3);
        ColourProof x = Graphs.justTooLong();
        x.solve();
        x.graph(3);
        Expect.due("solve() of another graph then", x.solve(), 1);
        Expect.due("lines()", x.lines(), 1);
    }

    private static void colourInTheBest() {
        Expect.by("colour: The colour of a vertex in THE BEST");
        ColourProof x = Graphs.complete(30);
        x.solve();
        Expect.due("colour(0)", x.colour(0), 0);
        Expect.due("colour(29)", x.colour(29), 29);
        // Not in THE FIRST COLOURING, which has four colours here.
        x = Graphs.drawn(7, 745, 50);
        Expect.due("first()", x.first(), 4);
        Expect.due("solve()", x.solve(), 3);
        int clashes = 0;
        for (int a = 0; a < 7; a++) {
            Expect.due("colour(" + a + ") is 0 .. 2", x.colour(a) >= 0 && x.colour(a) <= 2, true);
            for (int b = 0; b < a; b++) {
                clashes += x.has(a, b) && x.colour(a) == x.colour(b) ? 1 : 0;
            }
        }
        Expect.due("clashes in THE BEST", clashes, 0);
        // Told colours are others.
        x.paint(0, 25);
        Expect.due("colour(0) is not told", x.colour(0) <= 2, true);
    }

    private static void colourRefusesNoVertex() {
        Expect.by("colour: NUMBER: it is no vertex");
        for (int n = 0; n <= 30; n++) {
            ColourProof x = Graphs.complete(n);
            x.solve();
            if (n > 0) {
                Expect.due("colour(" + (n - 1) + ") of " + n, x.colour(n - 1), n - 1);
            }
            for (int bad : new int[] {-1, n, 30, 31, MIN, MAX}) {
                Expect.due("colour(" + bad + ") of " + n, x.colour(bad), -1);
            }
        }
    }

    private static void colourUnsolved() {
        Expect.by("colour: NUMBER: it is no vertex; UNSOLVED");
        ColourProof x = Graphs.of(3);
        Expect.due("colour(-1)", x.colour(-1), -1);
        Expect.due("colour(0)", x.colour(0), -2);
        Expect.due("colour(2)", x.colour(2), -2);
        Expect.due("colour(3)", x.colour(3), -1);
        x.solve();
        Expect.due("colour(2) when solved", x.colour(2), 0);
    }

    private static void cliqueWithoutVertices() {
        Expect.by("clique: THE CLIQUE as a set (0 without vertices)");
        Expect.due("clique() without vertices", new ColourProof().clique(), 0);
        ColourProof x = Graphs.complete(30);
        Expect.due("clique() of 30", x.clique(), (1 << 30) - 1);
        x.graph(0);
        Expect.due("clique() when they are gone", x.clique(), 0);
        x.graph(1);
        Expect.due("clique() of one", x.clique(), 1);
        Expect.due("clique() of the last two", Graphs.of(30, 28, 29).clique(), 3 << 28);
    }

    private static void cliqueOfTheGraphAsItIs() {
        Expect.by("clique: of the graph as it is");
        ColourProof x = Graphs.complete(4);
        Expect.due("clique() unsolved", x.clique(), 15);
        x.solve();
        Expect.due("clique() solved", x.clique(), 15);
        x.edge(0, 3, false);
        Expect.due("clique() without 0 - 3, not solved any more", x.clique(), 7);
        x.turn(1, 1);
        // 1 is turned to 2 and 2 to 3; of 0 and 1, which are no neighbours then, the least is taken.
        Expect.due("clique() turned", x.clique(), 1 + 4 + 8);
        x.draw(0, 0);
        Expect.due("clique() without edges", x.clique(), 1);
        Calls.changesNothing("clique()", Graphs::unsolved, ColourProof::clique, 3);
    }

    private static void firstOfTheGraphAsItIs() {
        Expect.by("first: The number of colours of THE FIRST COLOURING, of the graph as it is");
        ColourProof x = Graphs.complete(4);
        Expect.due("first() unsolved", x.first(), 4);
        x.solve();
        Expect.due("first() solved", x.first(), 4);
        x.edge(0, 3, false);
        Expect.due("first() without 0 - 3, not solved any more", x.first(), 3);
        x.draw(0, 0);
        Expect.due("first() without edges", x.first(), 1);
        x.graph(0);
        Expect.due("first() without vertices", x.first(), 0);
        // Not of THE BEST: solve() finds three colours here.
        x = Graphs.drawn(7, 745, 50);
        x.solve();
        Expect.due("first() behind solve()", x.first(), 4);
        Calls.changesNothing("first()", Graphs::unsolved, ColourProof::first, 3);
    }

    private static void linesOfTheLog() {
        Expect.by("lines: How many LINES THE LOG has");
        ColourProof x = new ColourProof();
        x.solve();
        Expect.due("lines() of none", x.lines(), 0);
        x.graph(1);
        x.solve();
        Expect.due("lines() of one", x.lines(), 1);
        x = Graphs.justFits();
        x.solve();
        Expect.due("lines() of 3,000", x.lines(), 3000);
        x = Graphs.solved();
        Expect.due("lines() beside two told ones", x.lines(), 9);
    }

    private static void linesUnsolved() {
        Expect.by("lines: UNSOLVED");
        Calls.changesNothing("lines()", Graphs::unsolved, ColourProof::lines, -2);
        Calls.changesNothing("lines() of a new one", ColourProof::new, ColourProof::lines, -2);
    }

    private static void lineAtItsEnds() {
        Expect.by("line: Of LINE i of THE LOG the op (what = 0) or the number (1)");
        ColourProof x = Graphs.solved();
        int[][] log = {{1, 0}, {3, 0}, {1, 1}, {2, 0}, {3, 1}, {1, 2}, {3, 0}, {4, 24}, {2, 1}};
        for (int i = 0; i < 9; i++) {
            Expect.due("line(" + i + ", 0)", x.line(i, 0), log[i][0]);
            Expect.due("line(" + i + ", 1)", x.line(i, 1), log[i][1]);
        }
        x = Graphs.complete(30);
        x.solve();
        Expect.due("line(0, 1) of 30", x.line(0, 1), (1 << 30) - 1);
    }

    private static void lineUnsolved() {
        Expect.by("line: UNSOLVED; NUMBER");
        ColourProof x = Graphs.unsolved();
        Expect.due("line(0, 0)", x.line(0, 0), -2);
        Expect.due("line(-1, 0)", x.line(-1, 0), -2);
        Expect.due("line(0, 2)", x.line(0, 2), -2);
        Expect.due("line(-1, 2)", x.line(-1, 2), -2);
    }

    private static void lineRefusesNoLine() {
        Expect.by("line: NUMBER: there is no such LINE");
        ColourProof x = Graphs.solved();
        for (int bad : new int[] {-1, 9, 10, 2999, 3000, 3001, MIN, MAX}) {
            Expect.due("line(" + bad + ", 0)", x.line(bad, 0), -1);
            Expect.due("line(" + bad + ", 1)", x.line(bad, 1), -1);
        }
        Expect.due("line(8, 0)", x.line(8, 0), 2);
        x = Graphs.solvedEmpty();
        Expect.due("line(0, 0) of an empty log", x.line(0, 0), -1);
        Expect.due("line(0, 1) of an empty log", x.line(0, 1), -1);
        x = Graphs.justFits();
        x.solve();
        Expect.due("line(2999, 0) of 3,000", x.line(2999, 0), 2);
        Expect.due("line(3000, 0) of 3,000", x.line(3000, 0), -1);
        // A shorter log behind a longer one.
        x.graph(1);
        x.solve();
        Expect.due("line(0, 0) of a shorter one", x.line(0, 0), 4);
        Expect.due("line(1, 0) of a shorter one", x.line(1, 0), -1);
    }

    private static void lineRefusesAnotherWhat() {
        Expect.by("line: NUMBER: .. another what");
        for (int bad : new int[] {-1, 2, 3, MIN, MAX}) {
            Calls.changesNothing("line(0, " + bad + ")", Graphs::solved, x -> x.line(0, bad), -1);
            Expect.due("line(8, " + bad + ")", Graphs.solved().line(8, bad), -1);
            Expect.due("line(9, " + bad + ")", Graphs.solved().line(9, bad), -1);
        }
    }

    private static void workOfSolve() {
        Expect.by("work: what = 0 how many SEARCHES .., 1 .. LINES .., 2 .. BRANCHES, 3 CLOSES, 4 .. FOUND something");
        int[][] due = {{0, 0, 0, 0, 0}, {1, 9, 3, 1, 0}, {2, 27, 9, 2, 1}, {1, 26, 8, 1, 1}, {3, 120, 32, 3, 2}};
        ColourProof[] graphs = {Graphs.complete(5), Graphs.ring(5), Graphs.drawn(8, 37, 45), Graphs.drawn(7, 745, 50),
            Graphs.drawn(13, 280, 45)};
        for (int i = 0; i < due.length; i++) {
            graphs[i].solve();
            for (int what = 0; what < 5; what++) {
                Expect.due("graph " + i + ", work(" + what + ")", graphs[i].work(what), due[i][what]);
            }
        }
        // Of solve() alone, not of search(), and of the last one.
        ColourProof x = Graphs.solved();
        x.search(2);
        x.solve();
        x.search(1);
        for (int what = 0; what < 5; what++) {
            Expect.due("work(" + what + ") beside searches", x.work(what), due[1][what]);
        }
    }

    private static void workUnsolved() {
        Expect.by("work: UNSOLVED; NUMBER");
        for (int what : new int[] {-1, 0, 4, 5}) {
            Calls.changesNothing("work(" + what + ")", Graphs::unsolved, x -> x.work(what), -2);
        }
    }

    private static void workRefusesAnotherWhat() {
        Expect.by("work: NUMBER: another what");
        for (int bad : new int[] {-1, 5, 6, MIN, MAX}) {
            Calls.changesNothing("work(" + bad + ")", Graphs::solved, x -> x.work(bad), -1);
        }
        Expect.due("work(0)", Graphs.solved().work(0), 1);
        Expect.due("work(4)", Graphs.solved().work(4), 0);
    }

    private static void searchFindsOrNot() {
        Expect.by("search: 1 if something is FOUND, else 0");
        for (int n = 0; n <= 30; n++) {
            for (int k = 0; k <= 30; k++) {
                Expect.due("search(" + k + ") of all edges of " + n, Graphs.complete(n).search(k), k < n ? 0 : 1);
                Expect.due("search(" + k + ") without edges of " + n, Graphs.of(n).search(k), k == 0 && n > 0 ? 0 : 1);
            }
        }
    }

    private static void searchLinesBecomeTheToldLog() {
        Expect.by("search: its LINES become the told LOG");
        ColourProof x = Graphs.unsolved();
        x.search(2);
        Logs.due("search(2), longer than what was told", x, 1, 0, 3, 0, 1, 1, 2, 0, 3, 1, 1, 2, 3, 0, 4, 24, 2, 1);
        x.search(1);
        Logs.due("search(1), shorter than what was told", x, 4, 3);
        x = Graphs.told(new ColourProof());
        x.search(0);
        Logs.due("search(0) without vertices", x);
        // They can be altered like other told lines, and what is written next does not come with them.
        x = Graphs.ring(5);
        x.search(1);
        x.alter(0, 1, 2);
        x.tell(3, 0);
        x.first();
        x.clique();
        x.check(2);
        x.solve();
        Logs.due("altered", x, 1, 2, 3, 0);
    }

    private static void searchThatFoundKeepsItsLines() {
        Expect.by("search: (of one that FOUND something those that were written till then)");
        ColourProof x = Graphs.unsolved();
        x.search(3);
        Logs.due("search(3)", x, 1, 0, 3, 0, 1, 1, 2, 0, 3, 1, 1, 2, 3, 0, 1, 3, 2, 2, 3, 1, 1, 4, 2, 0, 2, 3, 3, 2);
    }

    private static void searchRefusesNumbers() {
        Expect.by("search: NUMBER: k isn't 0 .. 30");
        for (int bad : new int[] {-1, 31, 32, 33, MIN, MAX}) {
            Calls.changesNothing("search(" + bad + ")", Graphs::solved, x -> x.search(bad), -1);
            Calls.changesNothing("search(" + bad + ") of none", Graphs::solvedEmpty, x -> x.search(bad), -1);
            Calls.changesNothing("search(" + bad + ") of 30", () -> Graphs.complete(30), x -> x.search(bad), -1);
        }
        Expect.due("search(0)", Graphs.solved().search(0), 0);
        Expect.due("search(30)", Graphs.solved().search(30), 1);
    }

    private static void searchIsFull() {
        Expect.by("search: FULL: it would write a 3,001st LINE");
        Expect.due("3,000 lines, the last a BLOCK", Graphs.justFits().search(6), 0);
        Expect.due("3,000 lines, the last a CLOSE", Graphs.closeJustFits().search(13), 0);
        Expect.due("3,000 lines, the last a TRY", Graphs.foundJustInTime().search(8), 1);
        Calls.changesNothing("the 3,001st is a BLOCK", () -> Graphs.told(Graphs.justTooLong()), x -> x.search(6), -3);
        Calls.changesNothing("the 3,001st is a CLOSE", () -> Graphs.told(Graphs.closeJustTooLong()), x -> x.search(7),
                -3);
        Calls.changesNothing("the 3,001st is a TRY that finds", () -> Graphs.told(Graphs.foundJustTooLate()),
                x -> x.search(8), -3);
        Calls.changesNothing("the 3,001st is a TRY", () -> Graphs.told(Graphs.tryTooLate()), x -> x.search(11), -3);
        Calls.changesNothing("the 3,001st is a BRANCH", () -> Graphs.told(Graphs.branchTooLate()), x -> x.search(6),
                -3);
        // Behind one that is refused the next begins with an empty log.
        ColourProof x = Graphs.justTooLong();
        x.search(6);
        Expect.due("search(0) then", x.search(0), 0);
        Expect.due("told lines", State.toldLines(x), 1);
        // Where the told log is full of other lines there is room for a search all the same.
        x = Graphs.fullLog();
        Expect.due("search(6) again", x.search(6), 0);
        Expect.due("told lines", State.toldLines(x), 3000);
    }

    private static void searchKeepsWhatIsSolved() {
        Expect.by("search: (What is solved stays.)");
        for (int k = 0; k <= 30; k++) {
            int colours = k;
            Calls.changes("search(" + k + ")", Graphs::solved, x -> x.search(colours), k < 3 ? 0 : 1,
                    EnumSet.of(State.TOLD));
        }
        // What is not solved is not solved by it.
        Calls.changes("search(2)", Graphs::unsolved, x -> x.search(2), 0, EnumSet.of(State.TOLD));
        Calls.changes("search(3)", Graphs::unsolved, x -> x.search(3), 1, EnumSet.of(State.TOLD));
    }

    /**
     * A SEARCH with fewer colours writes no more than one with more that comes to the same end, so that solve() has
     * written the longest already. That is why no test can see a search() that is FULL leave what is solved.
     */
    private static void noSearchIsFullWhereSomethingIsSolved() {
        Expect.by("search: FULL (What is solved stays.)");
        for (ColourProof x : List.of(Graphs.justFits(), Graphs.closeJustFits(), Graphs.foundJustInTime())) {
            int colours = x.solve();
            for (int k = 0; k <= 30; k++) {
                Expect.due("search(" + k + ")", x.search(k), k < colours ? 0 : 1);
            }
            Expect.due("lines() stays", x.lines() > 0, true);
        }
    }
}
