import java.util.EnumSet;

/** Promises 17 to 22: each sentence of theirs that names a boundary case has a test here. */
public final class BoundsToldLogTest {
    private static final int MIN = Integer.MIN_VALUE;
    private static final int MAX = Integer.MAX_VALUE;

    public static void main(String[] args) {
        tellComesToTheEnd();
        tellTakesEachNumber();
        tellRefusesOps();
        tellIsFull();
        takeBecomesTheToldLog();
        takeUnsolved();
        alterOneLine();
        alterRefusesNoLine();
        alterRefusesOps();
        cutKeepsTheFirst();
        cutRefusesMore();
        cutRefusesBelowNone();
        toldAtItsEnds();
        toldRefusesNoLine();
        toldRefusesAnotherWhat();
        checkRight();
        checkWrongLine();
        checkRefusesNumbers();
        checkChangesNothing();
        Expect.end();
    }

    private static void tellComesToTheEnd() {
        Expect.by("tell: A LINE comes to the end of the told LOG: how many there are");
        ColourProof x = new ColourProof();
        for (int i = 1; i <= 100; i++) {
            Expect.due("tell(" + (1 + i % 4) + ", " + i + ")", x.tell(1 + i % 4, i), i);
            Expect.due("told(" + (i - 1) + ", 0)", x.told(i - 1, 0), 1 + i % 4);
            Expect.due("told(" + (i - 1) + ", 1)", x.told(i - 1, 1), i);
            Expect.due("told(0, 1)", x.told(0, 1), 1);
        }
        Calls.changes("tell(1, 1)", Graphs::solved, y -> y.tell(1, 1), 3, EnumSet.of(State.TOLD));
    }

    private static void tellTakesEachNumber() {
        Expect.by("tell(int op, int number): a LINE has an op and a number");
        for (int op = 1; op <= 4; op++) {
            ColourProof x = new ColourProof();
            for (int number : new int[] {0, -1, -2, -3, 30, 31, MIN, MAX}) {
                int lines = State.toldLines(x);
                Expect.due("tell(" + op + ", " + number + ")", x.tell(op, number), lines + 1);
                Expect.due("told(" + lines + ", 0)", x.told(lines, 0), op);
                Expect.due("told(" + lines + ", 1)", x.told(lines, 1), number);
            }
        }
    }

    private static void tellRefusesOps() {
        Expect.by("tell: NUMBER: op isn't 1 .. 4");
        Expect.due("tell(1, 0)", new ColourProof().tell(1, 0), 1);
        Expect.due("tell(4, 0)", new ColourProof().tell(4, 0), 1);
        for (int bad : new int[] {0, 5, -1, 6, 257, MIN, MAX}) {
            Calls.changesNothing("tell(" + bad + ", 1)", Graphs::solved, x -> x.tell(bad, 1), -1);
            Calls.changesNothing("tell(" + bad + ", 1), none told", ColourProof::new, x -> x.tell(bad, 1), -1);
        }
    }

    private static void tellIsFull() {
        Expect.by("tell: FULL: there are 3,000");
        ColourProof x = Graphs.fullLog();
        Expect.due("cut(2999)", x.cut(2999), 2999);
        Expect.due("tell(2, 7) as the 3,000th", x.tell(2, 7), 3000);
        Expect.due("told(2999, 1)", x.told(2999, 1), 7);
        Expect.due("tell(3, 8) as the 3,001st", x.tell(3, 8), -3);
        Expect.due("told(2999, 1)", x.told(2999, 1), 7);
        Expect.due("told(3000, 1)", x.told(3000, 1), -1);
        Expect.due("cut(3001)", x.cut(3001), -1);
        Expect.due("cut(3000)", x.cut(3000), 3000);
        for (int op = 1; op <= 4; op++) {
            int any = op;
            Calls.changesNothing("tell(" + op + ", 1)", Graphs::fullLog, y -> y.tell(any, 1), -3);
        }
        for (int bad : new int[] {0, 5}) {
            Calls.changesNothing("tell(" + bad + ", 1) when full", Graphs::fullLog, y -> y.tell(bad, 1), -1);
        }
        // One line less is room again.
        x.cut(2998);
        Expect.due("tell(1, 1) behind cut(2998)", x.tell(1, 1), 2999);
    }

    private static void takeBecomesTheToldLog() {
        Expect.by("take: THE LOG becomes the told LOG: how many LINES");
        ColourProof x = Graphs.solvedEmpty();
        Expect.due("take() of an empty log", x.take(), 0);
        Logs.due("take() of an empty log", x);
        x = Graphs.told(Graphs.of(1));
        x.solve();
        Expect.due("take() of one line", x.take(), 1);
        Logs.due("take() of one line, shorter than what was told", x, 4, 1);
        x = Graphs.solved();
        Expect.due("take() of nine", x.take(), 9);
        Logs.due("take() of nine, longer than what was told", x, 1, 0, 3, 0, 1, 1, 2, 0, 3, 1, 1, 2, 3, 0, 4, 24, 2, 1);
        x = Graphs.justFits();
        x.solve();
        Expect.due("take() of 3,000", x.take(), 3000);
        Expect.due("told lines", State.toldLines(x), 3000);
        Expect.due("tell(1, 1) behind them", x.tell(1, 1), -3);
        Calls.changes("take()", Graphs::solved, ColourProof::take, 9, EnumSet.of(State.TOLD));
        // The told log is one of its own then: what is done to it is not done to THE LOG, and the other way round.
        x = Graphs.solved();
        x.take();
        x.alter(0, 4, 31);
        x.cut(1);
        Expect.due("lines()", x.lines(), 9);
        Expect.due("line(0, 1)", x.line(0, 1), 0);
        x.graph(3);
        x.solve();
        Logs.due("what was taken", x, 4, 31);
    }

    private static void takeUnsolved() {
        Expect.by("take: UNSOLVED");
        Calls.changesNothing("take()", Graphs::unsolved, ColourProof::take, -2);
        Calls.changesNothing("take() of a new one", ColourProof::new, ColourProof::take, -2);
        Calls.changesNothing("take() of a full told log", Graphs::fullLog, ColourProof::take, -2);
    }

    private static void alterOneLine() {
        Expect.by("alter: LINE i of the told LOG becomes another one: 1");
        for (int i = 0; i < 3; i++) {
            for (int op = 1; op <= 4; op++) {
                for (int number : new int[] {0, -1, MIN, MAX}) {
                    ColourProof x = Logs.tell(new ColourProof(), 1, 5, 2, 6, 3, 7);
                    int[] due = {1, 5, 2, 6, 3, 7};
                    due[2 * i] = op;
                    due[2 * i + 1] = number;
                    String call = "alter(" + i + ", " + op + ", " + number + ")";
                    Expect.due(call, x.alter(i, op, number), 1);
                    Logs.due(call, x, due);
                }
            }
        }
        ColourProof x = Graphs.fullLog();
        Expect.due("alter(2999, 1, 9)", x.alter(2999, 1, 9), 1);
        Expect.due("told(2999, 1)", x.told(2999, 1), 9);
        Expect.due("alter(0, 4, 8)", x.alter(0, 4, 8), 1);
        Expect.due("told(0, 1)", x.told(0, 1), 8);
        Expect.due("told lines", State.toldLines(x), 3000);
        // The same line again is another one, too.
        x = Logs.tell(new ColourProof(), 1, 5);
        Expect.due("alter(0, 1, 5)", x.alter(0, 1, 5), 1);
    }

    private static void alterRefusesNoLine() {
        Expect.by("alter: NUMBER: there is no such LINE");
        for (int bad : new int[] {-1, 2, 3, 2999, 3000, MIN, MAX}) {
            Calls.changesNothing("alter(" + bad + ", 1, 1)", Graphs::solved, x -> x.alter(bad, 1, 1), -1);
        }
        Calls.changesNothing("alter(0, 1, 1), none told", ColourProof::new, x -> x.alter(0, 1, 1), -1);
        Calls.changesNothing("alter(3000, 1, 1) of 3,000", Graphs::fullLog, x -> x.alter(3000, 1, 1), -1);
        // A line that was cut off is none any more.
        ColourProof x = Logs.tell(new ColourProof(), 1, 5, 2, 6);
        x.cut(1);
        Expect.due("alter(1, 1, 1) behind cut(1)", x.alter(1, 1, 1), -1);
    }

    private static void alterRefusesOps() {
        Expect.by("alter: NUMBER: .. or op isn't 1 .. 4");
        for (int bad : new int[] {0, 5, -1, 6, 257, MIN, MAX}) {
            Calls.changesNothing("alter(0, " + bad + ", 1)", Graphs::solved, x -> x.alter(0, bad, 1), -1);
            Calls.changesNothing("alter(1, " + bad + ", 1)", Graphs::solved, x -> x.alter(1, bad, 1), -1);
            Calls.changesNothing("alter(2, " + bad + ", 1)", Graphs::solved, x -> x.alter(2, bad, 1), -1);
        }
    }

    private static void cutKeepsTheFirst() {
        Expect.by("cut: The told LOG keeps its first n LINES: n");
        int[] lines = {1, 5, 2, 6, 3, 7};
        for (int n = 0; n <= 3; n++) {
            ColourProof x = Logs.tell(new ColourProof(), lines);
            Expect.due("cut(" + n + ")", x.cut(n), n);
            Logs.due("cut(" + n + ")", x, java.util.Arrays.copyOf(lines, 2 * n));
            Expect.due("tell(4, 9) behind cut(" + n + ")", x.tell(4, 9), n + 1);
            Expect.due("told(" + n + ", 1)", x.told(n, 1), 9);
        }
        ColourProof x = Graphs.fullLog();
        Expect.due("cut(3000)", x.cut(3000), 3000);
        Expect.due("cut(2999)", x.cut(2999), 2999);
        Expect.due("told lines", State.toldLines(x), 2999);
        Expect.due("cut(0)", x.cut(0), 0);
        Expect.due("told lines", State.toldLines(x), 0);
        Expect.due("cut(0) of none", x.cut(0), 0);
        Calls.changes("cut(0)", Graphs::solved, y -> y.cut(0), 0, EnumSet.of(State.TOLD));
        Calls.changesNothing("cut(2) of two", Graphs::solved, y -> y.cut(2), 2);
    }

    private static void cutRefusesMore() {
        Expect.by("cut: NUMBER: it has not so many");
        for (int bad : new int[] {3, 4, 3000, 3001, MAX}) {
            Calls.changesNothing("cut(" + bad + ")", Graphs::solved, x -> x.cut(bad), -1);
        }
        Calls.changesNothing("cut(1), none told", ColourProof::new, x -> x.cut(1), -1);
        Calls.changesNothing("cut(3001) of 3,000", Graphs::fullLog, x -> x.cut(3001), -1);
        ColourProof x = Logs.tell(new ColourProof(), 1, 5, 2, 6);
        x.cut(1);
        Expect.due("cut(2) behind cut(1)", x.cut(2), -1);
    }

    private static void cutRefusesBelowNone() {
        Expect.by("cut: NUMBER: .. or n is below 0");
        for (int bad : new int[] {-1, -2, MIN}) {
            Calls.changesNothing("cut(" + bad + ")", Graphs::solved, x -> x.cut(bad), -1);
            Calls.changesNothing("cut(" + bad + "), none told", ColourProof::new, x -> x.cut(bad), -1);
        }
    }

    private static void toldAtItsEnds() {
        Expect.by("told: Of LINE i of the told LOG the op (what = 0) or the number (1)");
        ColourProof x = Logs.tell(new ColourProof(), 3, MIN, 1, MAX, 4, -1);
        Expect.due("told(0, 0)", x.told(0, 0), 3);
        Expect.due("told(0, 1)", x.told(0, 1), MIN);
        Expect.due("told(1, 0)", x.told(1, 0), 1);
        Expect.due("told(1, 1)", x.told(1, 1), MAX);
        Expect.due("told(2, 0)", x.told(2, 0), 4);
        Expect.due("told(2, 1)", x.told(2, 1), -1);
        x = Graphs.fullLog();
        Expect.due("told(2999, 0) of 3,000", x.told(2999, 0), 2);
    }

    private static void toldRefusesNoLine() {
        Expect.by("told: NUMBER: there is no such LINE");
        for (int bad : new int[] {-1, 2, 3, 2999, 3000, MIN, MAX}) {
            Calls.changesNothing("told(" + bad + ", 0)", Graphs::solved, x -> x.told(bad, 0), -1);
            Calls.changesNothing("told(" + bad + ", 1)", Graphs::solved, x -> x.told(bad, 1), -1);
        }
        Expect.due("told(0, 0), none told", new ColourProof().told(0, 0), -1);
        Expect.due("told(3000, 0) of 3,000", Graphs.fullLog().told(3000, 0), -1);
        Expect.due("told(3000, 1) of 3,000", Graphs.fullLog().told(3000, 1), -1);
    }

    private static void toldRefusesAnotherWhat() {
        Expect.by("told: NUMBER: .. another what");
        for (int bad : new int[] {-1, 2, 3, MIN, MAX}) {
            Calls.changesNothing("told(0, " + bad + ")", Graphs::solved, x -> x.told(0, bad), -1);
            Calls.changesNothing("told(1, " + bad + ")", Graphs::solved, x -> x.told(1, bad), -1);
            Calls.changesNothing("told(2, " + bad + ")", Graphs::solved, x -> x.told(2, bad), -1);
        }
    }

    private static void checkRight() {
        Expect.by("check: -1 if the told LOG is RIGHT for k");
        Expect.due("check(0)", Logs.tell(Graphs.of(1), 4, 1).check(0), -1);
        Expect.due("check(29)", Logs.tell(Graphs.complete(30), 4, (1 << 30) - 1).check(29), -1);
        ColourProof x = Graphs.fullLog();
        Expect.due("check(6) of 3,000 lines", x.check(6), -1);
        x = Graphs.closeJustFits();
        x.solve();
        x.take();
        Expect.due("check(13) of 3,000 lines", x.check(13), -1);
        // With 30 colours no log can be right, since there are never more than 30 vertices.
        Expect.due("check(30)", Logs.tell(Graphs.complete(30), 4, (1 << 30) - 1).check(30), 0);
    }

    private static void checkWrongLine() {
        Expect.by("check: else its WRONG LINE");
        Expect.due("the first", Logs.tell(Graphs.of(1), 4, 2).check(0), 0);
        Expect.due("no lines", Graphs.of(1).check(0), 0);
        ColourProof x = Graphs.fullLog();
        x.alter(2999, 4, 0);
        Expect.due("the 3,000th", x.check(6), 2999);
        x = Graphs.foundJustInTime();
        x.search(8);
        Expect.due("behind the 3,000th", x.check(8), 3000);
        x.alter(2999, 3, 30);
        Expect.due("the 3,000th, which can't stand", x.check(8), 2999);
    }

    private static void checkRefusesNumbers() {
        Expect.by("check: NUMBER is answered as -2 here: k isn't 0 .. 30");
        for (int bad : new int[] {-1, 31, 32, 33, MIN, MAX}) {
            Calls.changesNothing("check(" + bad + ")", Graphs::solved, x -> x.check(bad), -2);
            Expect.due("check(" + bad + ") of none", new ColourProof().check(bad), -2);
            Expect.due("check(" + bad + ") of a proof", Logs.tell(Graphs.of(1), 4, 1).check(bad), -2);
        }
        for (int k = 0; k <= 30; k++) {
            Expect.due("check(" + k + ") of none", new ColourProof().check(k), 0);
        }
    }

    private static void checkChangesNothing() {
        Expect.by("check (says nothing of what it changes)");
        Calls.changesNothing("check(2)", Graphs::solved, x -> x.check(2), 1);
        Calls.changesNothing("check(2) of a proof", BoundsToldLogTest::proof, x -> x.check(2), -1);
        Calls.changesNothing("check(1) of a proof", BoundsToldLogTest::proof, x -> x.check(1), 4);
    }

    private static ColourProof proof() {
        ColourProof x = Graphs.solved();
        x.take();
        return x;
    }
}
