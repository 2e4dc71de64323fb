import java.util.Random;

/** Long runs of calls, drawn by fixed seeds, on a ColourProof and on the Reference: each answer must be the same. */
public final class DifferentialTest {
    private static final int CALLS = 512;

    private final ColourProof x = new ColourProof();
    private final Reference y = new Reference();
    private final Random random;
    private final int run;
    private final int vertices;
    private int calls = 0;

    private DifferentialTest(int run, int vertices) {
        this.run = run;
        this.vertices = vertices;
        random = new Random(run);
    }

    public static void main(String[] args) {
        for (int run = 0; run < 1500; run++) {
            new DifferentialTest(run, 1 + run % 9).go();
        }
        for (int run = 1500; run < 1560; run++) {
            new DifferentialTest(run, 16).go();
        }
        logs(30, 30, 12);
        logs(14, 400, 1);
        Expect.end();
    }

    /** Whole logs of graphs of n vertices, line by line. */
    private static void logs(int n, int graphs, int step) {
        for (int seed = 0; seed < graphs; seed++) {
            int part = 5 + seed * step % 95;
            ColourProof x = Graphs.drawn(n, seed, part);
            Reference y = new Reference();
            y.graph(n);
            y.draw(seed, part);
            String name = "n " + n + ", draw(" + seed + ", " + part + "): ";
            Expect.due(name + "solve()", x.solve(), y.solve());
            Expect.due(name + "lines()", x.lines(), y.lines());
            for (int i = 0; i < y.lines(); i++) {
                Expect.due(name + "line(" + i + ", 0)", x.line(i, 0), y.line(i, 0));
                Expect.due(name + "line(" + i + ", 1)", x.line(i, 1), y.line(i, 1));
            }
            for (int v = 0; v < n; v++) {
                Expect.due(name + "colour(" + v + ")", x.colour(v), y.colour(v));
            }
            for (int what = 0; what < 5; what++) {
                Expect.due(name + "work(" + what + ")", x.work(what), y.work(what));
            }
        }
    }

    private void go() {
        due("graph", x.graph(vertices), y.graph(vertices));
        int part = random.nextInt(101);
        int seed = random.nextInt();
        due("draw", x.draw(seed, part), y.draw(seed, part));
        while (calls < CALLS - 60) {
            switch (random.nextInt(12)) {
                case 0:
                    changeGraph();
                    break;
                case 1:
                case 2:
                    askGraph();
                    break;
                case 3:
                    solveOrSearch();
                    break;
                case 4:
                case 5:
                    askSolved();
                    break;
                case 6:
                case 7:
                    changeLog();
                    break;
                case 8:
                case 9:
                    check();
                    break;
                default:
                    colours();
                    break;
            }
        }
        for (int v = 0; v < 30; v++) {
            due("paint(" + v + ", 0)", x.paint(v, 0), y.paint(v, 0));
        }
    }

    private void due(String call, int got, int want) {
        calls++;
        Expect.due("run " + run + ", call " + calls + ": " + call, got, want);
    }

    /** A number that is mostly good where 0 .. top - 1 are, now and then just outside or far away. */
    private int about(int top) {
        switch (random.nextInt(16)) {
            case 0:
                return -1;
            case 1:
                return top;
            case 2:
                return random.nextBoolean() ? random.nextInt() : random.nextInt(70) - 20;
            default:
                return top > 0 ? random.nextInt(top) : 0;
        }
    }

    private void changeGraph() {
        int n = y.count(0);
        int a = about(n);
        int b = about(n);
        switch (random.nextInt(12)) {
            case 0:
                a = random.nextInt(5) == 0 ? about(31) : random.nextInt(vertices + 1);
                a = a > vertices && a <= 30 ? vertices : a;
                due("graph(" + a + ")", x.graph(a), y.graph(a));
                break;
            case 1:
            case 2:
                a = random.nextInt();
                b = about(101);
                due("draw(" + a + ", " + b + ")", x.draw(a, b), y.draw(a, b));
                break;
            case 3:
            case 4:
                a = about(31);
                due("turn(" + a + ", " + b + ")", x.turn(a, b), y.turn(a, b));
                break;
            default:
                boolean on = random.nextBoolean();
                due("edge(" + a + ", " + b + ", " + on + ")", x.edge(a, b, on), y.edge(a, b, on));
                break;
        }
    }

    private void askGraph() {
        int a = about(y.count(0));
        int b = about(y.count(0));
        switch (random.nextInt(5)) {
            case 0:
                a = about(3);
                due("count(" + a + ")", x.count(a), y.count(a));
                break;
            case 1:
                due("has(" + a + ", " + b + ")", x.has(a, b) ? 1 : 0, y.has(a, b) ? 1 : 0);
                break;
            case 2:
                due("degree(" + a + ")", x.degree(a), y.degree(a));
                break;
            case 3:
                due("clique()", x.clique(), y.clique());
                break;
            default:
                due("first()", x.first(), y.first());
                break;
        }
    }

    private void solveOrSearch() {
        if (random.nextInt(3) != 0) {
            due("solve()", x.solve(), y.solve());
            return;
        }
        int k = random.nextInt(4) == 0 ? about(31) : random.nextInt(6);
        due("search(" + k + ")", x.search(k), y.search(k));
    }

    private void askSolved() {
        int a = about(y.count(0));
        switch (random.nextInt(5)) {
            case 0:
                due("colour(" + a + ")", x.colour(a), y.colour(a));
                break;
            case 1:
                due("lines()", x.lines(), y.lines());
                break;
            case 2:
                a = about(5);
                due("work(" + a + ")", x.work(a), y.work(a));
                break;
            default:
                a = about(y.lines());
                int what = about(2);
                due("line(" + a + ", " + what + ")", x.line(a, what), y.line(a, what));
                break;
        }
    }

    private void changeLog() {
        int i = about(y.toldLines());
        int op = random.nextInt(10) == 0 ? about(5) : 1 + random.nextInt(4);
        int number = op == 4 ? random.nextInt(1 << vertices) : about(y.count(0));
        switch (random.nextInt(12)) {
            case 0:
            case 1:
            case 2:
                due("tell(" + op + ", " + number + ")", x.tell(op, number), y.tell(op, number));
                break;
            case 3:
            case 4:
                due("alter(" + i + ", " + op + ", " + number + ")", x.alter(i, op, number), y.alter(i, op, number));
                break;
            case 5:
                i = y.toldLines() - random.nextInt(3);
                due("cut(" + i + ")", x.cut(i), y.cut(i));
                break;
            case 6:
                i = about(y.toldLines() + 1);
                due("cut(" + i + ")", x.cut(i), y.cut(i));
                break;
            case 7:
            case 8:
            case 9:
                due("take()", x.take(), y.take());
                break;
            default:
                int what = about(2);
                due("told(" + i + ", " + what + ")", x.told(i, what), y.told(i, what));
                break;
        }
    }

    /** Checks, and often tells another last line then, so that told logs come far by themselves, too. */
    private void check() {
        int k = random.nextInt(6) == 0 ? about(31) : random.nextInt(5);
        int wrong = y.check(k);
        due("check(" + k + ")", x.check(k), wrong);
        for (int more = 0; more < 4 && wrong >= 0 && wrong <= y.toldLines(); more++) {
            int op = 1 + random.nextInt(4);
            int number = op == 4 ? 1 << random.nextInt(vertices) | 1 << random.nextInt(vertices)
                    : random.nextInt(op == 3 ? 3 : vertices);
            due("cut(" + wrong + ")", x.cut(wrong), y.cut(wrong));
            due("tell(" + op + ", " + number + ")", x.tell(op, number), y.tell(op, number));
            wrong = y.check(k);
            due("check(" + k + ")", x.check(k), wrong);
        }
    }

    private void colours() {
        int v = about(y.count(0));
        int c = random.nextInt(5) == 0 ? about(30) : random.nextInt(3);
        switch (random.nextInt(8)) {
            case 0:
            case 1:
                v = random.nextInt(6) == 0 ? about(30) : v;
                due("paint(" + v + ", " + c + ")", x.paint(v, c), y.paint(v, c));
                break;
            case 2:
                due("copy()", x.copy(), y.copy());
                break;
            case 3:
                due("clashes()", x.clashes(), y.clashes());
                break;
            case 4:
                due("used()", x.used(), y.used());
                break;
            case 5:
            case 6:
                due("chain(" + v + ", " + c + ")", x.chain(v, c), y.chain(v, c));
                break;
            default:
                due("saturation(" + v + ")", x.saturation(v), y.saturation(v));
                break;
        }
    }
}
