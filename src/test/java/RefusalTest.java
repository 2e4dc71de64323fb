import java.util.ArrayList;
import java.util.EnumSet;
import java.util.List;
import java.util.function.Supplier;
import java.util.function.ToIntFunction;

/** What 'Terms' says of refused calls, of how long what is solved stays, and of which refusal is answered. */
public final class RefusalTest {
    /** A call by its name, and what it answers on Graphs.solved(). */
    private record Call(String name, ToIntFunction<ColourProof> made, int answer) {
    }

    public static void main(String[] args) {
        refusedChangesNothing();
        refusedChangesNothingUnsolved();
        refusedWhenFullChangesNothing();
        solvedStaysWhereCallsAreRefused();
        solvedStaysWithOtherCalls();
        solvedGoesWithGraph();
        solvedGoesWithDraw();
        solvedGoesWithTurn();
        solvedGoesWithAnEdgeThatChanges();
        solvedIsAnewWithSolve();
        toldStaysWithTheGraph();
        firstRefusalOfColour();
        firstRefusalOfLine();
        firstRefusalOfWork();
        firstRefusalOfSearch();
        firstRefusalOfTell();
        at512Calls();
        Expect.end();
    }

    private static List<Call> refused() {
        List<Call> calls = new ArrayList<>();
        for (int far : new int[] {Integer.MIN_VALUE, -32, -2, 31, 32, 101, 3001, Integer.MAX_VALUE}) {
            calls.add(new Call("graph(" + far + ")", x -> x.graph(far), -1));
            calls.add(new Call("edge(" + far + ", 1, true)", x -> x.edge(far, 1, true), -1));
            calls.add(new Call("edge(1, " + far + ", false)", x -> x.edge(1, far, false), -1));
            calls.add(new Call("turn(" + far + ", 0)", x -> x.turn(far, 0), -1));
            calls.add(new Call("turn(1, " + far + ")", x -> x.turn(1, far), -1));
            calls.add(new Call("search(" + far + ")", x -> x.search(far), -1));
            calls.add(new Call("tell(" + far + ", 0)", x -> x.tell(far, 0), -1));
            calls.add(new Call("alter(" + far + ", 1, 0)", x -> x.alter(far, 1, 0), -1));
            calls.add(new Call("alter(0, " + far + ", 0)", x -> x.alter(0, far, 0), -1));
            calls.add(new Call("cut(" + far + ")", x -> x.cut(far), -1));
            calls.add(new Call("check(" + far + ")", x -> x.check(far), -2));
            calls.add(new Call("paint(" + far + ", 3)", x -> x.paint(far, 3), -2));
            calls.add(new Call("paint(0, " + far + ")", x -> x.paint(0, far), -2));
            calls.add(new Call("chain(" + far + ", 3)", x -> x.chain(far, 3), -1));
            calls.add(new Call("chain(0, " + far + ")", x -> x.chain(0, far), -1));
        }
        calls.add(new Call("graph(-1)", x -> x.graph(-1), -1));
        calls.add(new Call("edge(0, 0, true)", x -> x.edge(0, 0, true), -1));
        calls.add(new Call("edge(4, 5, true)", x -> x.edge(4, 5, true), -1));
        calls.add(new Call("edge(-1, 0, true)", x -> x.edge(-1, 0, true), -1));
        calls.add(new Call("draw(7, -1)", x -> x.draw(7, -1), -1));
        calls.add(new Call("draw(7, 101)", x -> x.draw(7, 101), -1));
        calls.add(new Call("turn(5, 1)", x -> x.turn(5, 1), -1));
        calls.add(new Call("turn(2, 5)", x -> x.turn(2, 5), -1));
        calls.add(new Call("turn(0, 1)", x -> x.turn(0, 1), -1));
        calls.add(new Call("turn(2, -1)", x -> x.turn(2, -1), -1));
        calls.add(new Call("search(-1)", x -> x.search(-1), -1));
        calls.add(new Call("tell(0, 1)", x -> x.tell(0, 1), -1));
        calls.add(new Call("tell(5, 1)", x -> x.tell(5, 1), -1));
        calls.add(new Call("alter(2, 1, 1)", x -> x.alter(2, 1, 1), -1));
        calls.add(new Call("alter(-1, 1, 1)", x -> x.alter(-1, 1, 1), -1));
        calls.add(new Call("alter(1, 0, 1)", x -> x.alter(1, 0, 1), -1));
        calls.add(new Call("alter(1, 5, 1)", x -> x.alter(1, 5, 1), -1));
        calls.add(new Call("cut(3)", x -> x.cut(3), -1));
        calls.add(new Call("cut(-1)", x -> x.cut(-1), -1));
        calls.add(new Call("check(-1)", x -> x.check(-1), -2));
        calls.add(new Call("paint(-1, 3)", x -> x.paint(-1, 3), -2));
        calls.add(new Call("paint(30, 3)", x -> x.paint(30, 3), -2));
        calls.add(new Call("paint(0, 30)", x -> x.paint(0, 30), -2));
        calls.add(new Call("chain(5, 3)", x -> x.chain(5, 3), -1));
        calls.add(new Call("chain(0, 4)", x -> x.chain(0, 4), -1));
        calls.add(new Call("chain(2, 4)", x -> x.chain(2, 4), -1));
        calls.add(new Call("chain(0, 30)", x -> x.chain(0, 30), -1));
        calls.add(new Call("chain(0, -1)", x -> x.chain(0, -1), -1));
        return calls;
    }

    private static void refusedChangesNothing() {
        Expect.by("A call that is refused (answers below 0) changes nothing");
        for (Call call : refused()) {
            Calls.changesNothing(call.name(), Graphs::solved, call.made(), call.answer());
        }
    }

    private static void refusedChangesNothingUnsolved() {
        Expect.by("A call that is refused (answers below 0) changes nothing (nothing is solved)");
        for (Call call : refused()) {
            Calls.changesNothing(call.name(), Graphs::unsolved, call.made(), call.answer());
        }
        Calls.changesNothing("take()", Graphs::unsolved, ColourProof::take, -2);
        Calls.changesNothing("copy()", Graphs::unsolved, ColourProof::copy, -2);
        Calls.changesNothing("colour(0)", Graphs::unsolved, x -> x.colour(0), -2);
        Calls.changesNothing("lines()", Graphs::unsolved, ColourProof::lines, -2);
        Calls.changesNothing("line(0, 0)", Graphs::unsolved, x -> x.line(0, 0), -2);
        Calls.changesNothing("work(0)", Graphs::unsolved, x -> x.work(0), -2);
    }

    private static void refusedWhenFullChangesNothing() {
        Expect.by("A call that is refused (answers below 0) changes nothing (FULL)");
        Supplier<ColourProof> tooLong = () -> Graphs.told(Graphs.justTooLong());
        Calls.changesNothing("solve()", tooLong, ColourProof::solve, -3);
        Calls.changesNothing("search(6)", tooLong, x -> x.search(6), -3);
        Supplier<ColourProof> tooLate = () -> Graphs.told(Graphs.foundJustTooLate());
        Calls.changesNothing("solve()", tooLate, ColourProof::solve, -3);
        Calls.changesNothing("search(8)", tooLate, x -> x.search(8), -3);
        Calls.changesNothing("tell(1, 0)", Graphs::fullLog, x -> x.tell(1, 0), -3);
    }

    private static void solvedStaysWhereCallsAreRefused() {
        Expect.by("What is solved stays until graph(), draw() or turn() is not refused");
        ColourProof x = Graphs.solved();
        String before = State.SOLVED.of(Graphs.solved());
        for (Call call : refused()) {
            call.made().applyAsInt(x);
        }
        Expect.due("all refused calls in a row leave what is solved", State.SOLVED.of(x).equals(before), true);
    }

    private static void solvedStaysWithOtherCalls() {
        Expect.by("What is solved stays");
        List<Call> calls = List.of(
                new Call("edge(0, 1, true)", x -> x.edge(0, 1, true), 0),
                new Call("edge(0, 2, false)", x -> x.edge(0, 2, false), 0),
                new Call("count(1)", x -> x.count(1), 5),
                new Call("has(0, 1)", x -> x.has(0, 1) ? 1 : 0, 1),
                new Call("degree(0)", x -> x.degree(0), 2),
                new Call("colour(4)", x -> x.colour(4), 2),
                new Call("clique()", ColourProof::clique, 3),
                new Call("first()", ColourProof::first, 3),
                new Call("lines()", ColourProof::lines, 9),
                new Call("line(7, 1)", x -> x.line(7, 1), 24),
                new Call("work(1)", x -> x.work(1), 9),
                new Call("told(1, 1)", x -> x.told(1, 1), -7),
                new Call("check(2)", x -> x.check(2), 1),
                new Call("clashes()", ColourProof::clashes, 0),
                new Call("used()", ColourProof::used, 2),
                new Call("saturation(0)", x -> x.saturation(0), 1));
        for (Call call : calls) {
            Calls.changes(call.name(), Graphs::solved, call.made(), call.answer(), EnumSet.noneOf(State.class));
        }
        List<Call> telling = new ArrayList<>(List.of(
                new Call("tell(2, 0)", x -> x.tell(2, 0), 3),
                new Call("take()", ColourProof::take, 9),
                new Call("alter(0, 2, 2)", x -> x.alter(0, 2, 2), 1),
                new Call("cut(0)", x -> x.cut(0), 0),
                new Call("paint(0, 1)", x -> x.paint(0, 1), 4),
                new Call("copy()", ColourProof::copy, 5),
                new Call("chain(0, 29)", x -> x.chain(0, 29), 2)));
        for (int k = 0; k <= 30; k++) {
            int colours = k;
            telling.add(new Call("search(" + k + ")", x -> x.search(colours), k < 3 ? 0 : 1));
        }
        for (Call call : telling) {
            Calls.changes(call.name(), Graphs::solved, call.made(), call.answer(), EnumSet.of(State.TOLD));
        }
    }

    /** All that asks for what is solved says that nothing is. */
    private static void gone(String call, ColourProof x) {
        Expect.due(call + ", lines()", x.lines(), -2);
        Expect.due(call + ", line(0, 0)", x.line(0, 0), -2);
        Expect.due(call + ", work(0)", x.work(0), -2);
        Expect.due(call + ", take()", x.take(), -2);
        Expect.due(call + ", copy()", x.copy(), -2);
        Expect.due(call + ", colour(0)", x.colour(0), x.count(0) == 0 ? -1 : -2);
    }

    private static void solvedGoesWithGraph() {
        Expect.by("until graph() .. is not refused (also if the graph is as before then)");
        for (int n : new int[] {0, 4, 5, 6, 30}) {
            ColourProof x = Graphs.solved();
            Expect.due("graph(" + n + ")", x.graph(n), n);
            gone("graph(" + n + ")", x);
        }
        ColourProof x = Graphs.solvedEmpty();
        Expect.due("graph(0), as before", x.graph(0), 0);
        gone("graph(0), as before", x);
        x = Graphs.of(7);
        x.solve();
        Expect.due("graph(7), as before", x.graph(7), 7);
        gone("graph(7), as before", x);
    }

    private static void solvedGoesWithDraw() {
        Expect.by("until .. draw() .. is not refused (also if the graph is as before then)");
        ColourProof x = Graphs.solved();
        Expect.due("draw(1, 0)", x.draw(1, 0), 0);
        gone("draw(1, 0)", x);
        x.solve();
        Expect.due("draw(1, 0), as before", x.draw(1, 0), 0);
        gone("draw(1, 0), as before", x);
        x = Graphs.complete(6);
        x.solve();
        Expect.due("draw(9, 100), as before", x.draw(9, 100), 15);
        gone("draw(9, 100), as before", x);
        x = Graphs.solvedEmpty();
        Expect.due("draw(1, 50) without vertices", x.draw(1, 50), 0);
        gone("draw(1, 50) without vertices", x);
    }

    private static void solvedGoesWithTurn() {
        Expect.by("until .. turn() is not refused (also if the graph is as before then)");
        ColourProof x = Graphs.solved();
        Expect.due("turn(2, 1)", x.turn(2, 1), 1);
        gone("turn(2, 1)", x);
        x = Graphs.solved();
        Expect.due("turn(1, 0), as before", x.turn(1, 0), 1);
        gone("turn(1, 0), as before", x);
        x = Graphs.solved();
        Expect.due("turn(1, 2), the ring as before", x.turn(1, 2), 1);
        gone("turn(1, 2), the ring as before", x);
        x = Graphs.of(1);
        x.solve();
        Expect.due("turn(30, 0) of one vertex", x.turn(30, 0), 1);
        gone("turn(30, 0) of one vertex", x);
    }

    private static void solvedGoesWithAnEdgeThatChanges() {
        Expect.by("until .. edge() changes something");
        ColourProof x = Graphs.solved();
        Expect.due("edge(0, 1, false)", x.edge(0, 1, false), 1);
        gone("edge(0, 1, false)", x);
        Expect.due("edge(0, 1, true), as it was when it was solved", x.edge(0, 1, true), 1);
        gone("edge(0, 1, true)", x);
        x = Graphs.solved();
        Expect.due("edge(2, 0, true)", x.edge(2, 0, true), 1);
        gone("edge(2, 0, true)", x);
        x = Graphs.solved();
        String before = State.SOLVED.of(Graphs.solved());
        Expect.due("edge(1, 0, true)", x.edge(1, 0, true), 0);
        Expect.due("edge(2, 0, false)", x.edge(2, 0, false), 0);
        Expect.due("what is solved stays where nothing changes", State.SOLVED.of(x).equals(before), true);
    }

    private static void solvedIsAnewWithSolve() {
        Expect.by("or solve() is called anew");
        ColourProof x = Graphs.solved();
        Expect.due("solve() anew", x.solve(), 3);
        Expect.due("the same is solved", State.SOLVED.of(x).equals(State.SOLVED.of(Graphs.solved())), true);
        // Of another graph nothing of the first is left, be it longer or shorter.
        x = Graphs.solved();
        x.graph(2);
        Expect.due("solve() of another", x.solve(), 1);
        Expect.due("lines()", x.lines(), 1);
        Expect.due("line(1, 0)", x.line(1, 0), -1);
        Expect.due("work(0)", x.work(0), 0);
        Expect.due("colour(2)", x.colour(2), -1);
        // A solve() that is refused leaves nothing, behind one that was not.
        x = Graphs.drawn(30, 11531, 62);
        x.turn(1, 2);
        Expect.due("solve() that is not refused", x.solve(), 8);
        x.turn(1, 29);
        Expect.due("solve() that is refused", x.solve(), -3);
        gone("solve() that is refused", x);
        x.turn(1, 1);
        Expect.due("solve() that is not refused again", x.solve(), 8);
        Expect.due("work(1)", x.work(1), 3298);
    }

    private static void toldStaysWithTheGraph() {
        Expect.by("graph(), edge(), draw() and turn() say nothing of told LINES and told colours");
        Calls.changes("graph(0)", Graphs::solved, x -> x.graph(0), 0, EnumSet.of(State.GRAPH, State.SOLVED));
        Calls.changes("edge(0, 2, true)", Graphs::solved, x -> x.edge(0, 2, true), 1,
                EnumSet.of(State.GRAPH, State.SOLVED));
        Calls.changes("draw(1, 100)", Graphs::solved, x -> x.draw(1, 100), 10, EnumSet.of(State.GRAPH, State.SOLVED));
        Calls.changes("turn(2, 1)", Graphs::solved, x -> x.turn(2, 1), 1, EnumSet.of(State.GRAPH, State.SOLVED));
        Calls.changes("solve()", Graphs::unsolved, ColourProof::solve, 3, EnumSet.of(State.SOLVED));
    }

    private static void firstRefusalOfColour() {
        Expect.by("Of several refusals that a call names the first one named is answered: colour NUMBER, UNSOLVED");
        ColourProof x = Graphs.unsolved();
        Expect.due("colour(4)", x.colour(4), -2);
        Expect.due("colour(0)", x.colour(0), -2);
        for (int bad : new int[] {-1, 5, 30, Integer.MIN_VALUE, Integer.MAX_VALUE}) {
            Expect.due("colour(" + bad + ")", x.colour(bad), -1);
        }
        Expect.due("colour(0) without vertices", new ColourProof().colour(0), -1);
    }

    private static void firstRefusalOfLine() {
        Expect.by("Of several refusals that a call names the first one named is answered: line UNSOLVED, NUMBER");
        ColourProof x = Graphs.unsolved();
        for (int i : new int[] {-1, 0, 3000, Integer.MIN_VALUE, Integer.MAX_VALUE}) {
            for (int what : new int[] {-1, 0, 1, 2, Integer.MAX_VALUE}) {
                Expect.due("line(" + i + ", " + what + ")", x.line(i, what), -2);
            }
        }
    }

    private static void firstRefusalOfWork() {
        Expect.by("Of several refusals that a call names the first one named is answered: work UNSOLVED, NUMBER");
        ColourProof x = Graphs.unsolved();
        for (int what : new int[] {-1, 0, 4, 5, Integer.MIN_VALUE, Integer.MAX_VALUE}) {
            Expect.due("work(" + what + ")", x.work(what), -2);
        }
    }

    private static void firstRefusalOfSearch() {
        Expect.by("Of several refusals that a call names the first one named is answered: search NUMBER, FULL");
        ColourProof x = Graphs.justTooLong();
        Expect.due("search(6)", x.search(6), -3);
        for (int bad : new int[] {-1, 31, 38, Integer.MIN_VALUE, Integer.MAX_VALUE}) {
            Expect.due("search(" + bad + ")", x.search(bad), -1);
        }
    }

    private static void firstRefusalOfTell() {
        Expect.by("Of several refusals that a call names the first one named is answered: tell NUMBER, FULL");
        ColourProof x = Graphs.fullLog();
        for (int op = 1; op <= 4; op++) {
            Expect.due("tell(" + op + ", 0)", x.tell(op, 0), -3);
        }
        for (int bad : new int[] {0, 5, -1, Integer.MIN_VALUE, Integer.MAX_VALUE}) {
            Expect.due("tell(" + bad + ", 0)", x.tell(bad, 0), -1);
        }
    }

    private static void at512Calls() {
        Expect.by("An object is used for at most 512 calls after it has been made");
        ColourProof x = new ColourProof();
        x.graph(30);
        x.draw(4687, 40);
        x.turn(23, 24);
        for (int call = 4; call < 512; call++) {
            if (call % 2 == 0) {
                Expect.due("call " + call + ", solve()", x.solve(), 7);
            } else {
                Expect.due("call " + call + ", search(6)", x.search(6), 0);
            }
        }
        Expect.due("call 512, check(6)", x.check(6), -1);
        x = new ColourProof();
        for (int call = 1; call <= 512; call++) {
            Expect.due("call " + call + ", tell(4, 1)", x.tell(4, 1), call);
        }
    }
}
