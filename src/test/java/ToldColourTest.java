/** Promises 23 to 28: paint, copy, clashes, used, chain, saturation. */
public final class ToldColourTest {
    public static void main(String[] args) {
        paint();
        copy();
        clashes();
        used();
        chain();
        chainRefuses();
        chainOfAll();
        saturation();
        Expect.end();
    }

    private static ColourProof paintAll(ColourProof x, int... colours) {
        for (int v = 0; v < colours.length; v++) {
            x.paint(v, colours[v]);
        }
        return x;
    }

    private static void colours(String name, ColourProof x, int... colours) {
        for (int v = 0; v < colours.length; v++) {
            Expect.due(name + ": paint(" + v + ", ..)", x.paint(v, colours[v]), colours[v]);
        }
    }

    private static void paint() {
        ColourProof x = new ColourProof();
        Expect.due("paint(0, 0)", x.paint(0, 0), -1);
        Expect.due("paint(0, 29)", x.paint(0, 29), 0);
        Expect.due("paint(0, -1)", x.paint(0, -1), 29);
        Expect.due("paint(0, 4)", x.paint(0, 4), -1);
        Expect.due("paint(29, 5)", x.paint(29, 5), -1);
        Expect.due("paint(29, 5)", x.paint(29, 5), 5);
        for (int bad : new int[] {-1, 30, Integer.MIN_VALUE, Integer.MAX_VALUE}) {
            Expect.due("paint(" + bad + ", 0)", x.paint(bad, 0), -2);
        }
        for (int bad : new int[] {-2, 30, Integer.MIN_VALUE, Integer.MAX_VALUE}) {
            Expect.due("paint(0, " + bad + ")", x.paint(0, bad), -2);
        }
        Expect.due("paint(0, 4)", x.paint(0, 4), 4);
        x.graph(30);
        x.draw(3, 50);
        x.turn(7, 1);
        Expect.due("paint(0, 4) whatever the graph is", x.paint(0, 4), 4);
        Expect.due("paint(29, 5) whatever the graph is", x.paint(29, 5), 5);
    }

    private static void copy() {
        ColourProof x = paintAll(Graphs.ring(5), 9, 9, 9, 9, 9, 8);
        Expect.due("copy() unsolved", x.copy(), -2);
        colours("as before", x, 9, 9, 9, 9, 9, 8);
        x.solve();
        Expect.due("copy()", x.copy(), 5);
        colours("copied", x, 0, 1, 0, 1, 2, 8);
        x.paint(0, 7);
        Expect.due("colour(0) stays", x.colour(0), 0);
        x.graph(0);
        x.solve();
        Expect.due("copy() without vertices", x.copy(), 0);
        colours("nothing copied", x, 7, 1, 0, 1, 2, 8);
        x = Graphs.complete(30);
        x.solve();
        Expect.due("copy() of 30", x.copy(), 30);
        Expect.due("paint(29, 0)", x.paint(29, 0), 29);
    }

    private static void clashes() {
        ColourProof x = paintAll(Graphs.complete(4), 1, 1, 1, -1, -1);
        Expect.due("clashes()", x.clashes(), 3);
        x.edge(0, 1, false);
        Expect.due("clashes() of two edges", x.clashes(), 2);
        x.paint(0, -1);
        Expect.due("clashes() of one edge", x.clashes(), 1);
        x.paint(1, -1);
        x.paint(2, -1);
        Expect.due("clashes() of none", x.clashes(), 0);
        x = Graphs.complete(30);
        for (int v = 0; v < 30; v++) {
            x.paint(v, 29);
        }
        Expect.due("clashes() of all", x.clashes(), 435);
        x.graph(29);
        Expect.due("clashes() without edges", x.clashes(), 0);
        x.draw(1, 100);
        Expect.due("clashes() of 29", x.clashes(), 406);
    }

    private static void used() {
        ColourProof x = paintAll(new ColourProof(), 0, 29, 0, -1, 5);
        Expect.due("used() without vertices", x.used(), 0);
        int[] used = {0, 1, 2, 2, 2, 3, 3};
        for (int n = 0; n < used.length; n++) {
            x.graph(n);
            Expect.due("used() of " + n, x.used(), used[n]);
        }
        x.graph(30);
        for (int v = 0; v < 30; v++) {
            x.paint(v, v);
        }
        Expect.due("used() of 30", x.used(), 30);
    }

    private static void chain() {
        // A way 0 - 1 - 2 - 3 - 4 - 5 and apart from it 6 - 7.
        ColourProof x = Graphs.of(8, 0, 1, 1, 2, 2, 3, 3, 4, 4, 5, 6, 7);
        paintAll(x, 0, 1, 0, 2, 0, 1, 0, 1, 0);
        Expect.due("chain(1, 0)", x.chain(1, 0), 3);
        colours("chain(1, 0)", x, 1, 0, 1, 2, 0, 1, 0, 1, 0);
        Expect.due("chain(4, 1)", x.chain(4, 1), 2);
        colours("chain(4, 1)", x, 1, 0, 1, 2, 1, 0, 0, 1, 0);
        Expect.due("chain(3, 1)", x.chain(3, 1), 3);
        colours("chain(3, 1)", x, 1, 0, 2, 1, 2, 0, 0, 1, 0);
        Expect.due("chain(0, 29)", x.chain(0, 29), 1);
        colours("chain(0, 29)", x, 29, 0, 2, 1, 2, 0, 0, 1, 0);
        Expect.due("chain(1, 5) beside other colours", x.chain(1, 5), 1);
        colours("chain(1, 5)", x, 29, 5, 2, 1, 2, 0, 0, 1, 0);
        // Vertices without a colour, and those of one colour side by side.
        paintAll(x, 3, 3, -1, 3, 3, 4, 3, 3);
        Expect.due("chain(0, 4)", x.chain(0, 4), 2);
        colours("chain(0, 4)", x, 4, 4, -1, 3, 3, 4, 3, 3);
        Expect.due("chain(5, 3)", x.chain(5, 3), 3);
        colours("chain(5, 3)", x, 4, 4, -1, 4, 4, 3, 3, 3);
        // No edges from vertices that the graph has no more.
        x.graph(2);
        Expect.due("chain(0, 0)", x.chain(0, 0), 1);
        colours("chain(0, 0)", x, 0, 4, -1, 4, 4, 3, 3, 3);
    }

    private static void chainRefuses() {
        ColourProof x = paintAll(Graphs.of(3, 0, 1, 1, 2), 0, 1, -1, 5);
        for (int bad : new int[] {-1, 3, 29, 30, Integer.MIN_VALUE, Integer.MAX_VALUE}) {
            Expect.due("chain(" + bad + ", 2)", x.chain(bad, 2), -1);
        }
        for (int bad : new int[] {-1, -2, 30, 32, Integer.MIN_VALUE, Integer.MAX_VALUE}) {
            Expect.due("chain(0, " + bad + ")", x.chain(0, bad), -1);
        }
        Expect.due("chain(0, 0)", x.chain(0, 0), -1);
        Expect.due("chain(2, 0)", x.chain(2, 0), -1);
        Expect.due("chain(2, -1)", x.chain(2, -1), -1);
        colours("as before", x, 0, 1, -1, 5);
        Expect.due("chain(0, 0) without vertices", new ColourProof().chain(0, 0), -1);
    }

    private static void chainOfAll() {
        ColourProof x = new ColourProof();
        x.graph(30);
        // The way goes from 29 down to 0, so that it is come to the end of it in 29 steps.
        for (int v = 0; v < 29; v++) {
            x.edge(v, v + 1, true);
        }
        for (int v = 0; v < 30; v++) {
            x.paint(v, v % 2);
        }
        Expect.due("chain(29, 0)", x.chain(29, 0), 30);
        Expect.due("chain(0, 0)", x.chain(0, 0), 30);
        for (int v = 0; v < 30; v++) {
            Expect.due("paint(" + v + ", 0)", x.paint(v, 0), v % 2);
        }
    }

    private static void saturation() {
        ColourProof x = paintAll(Graphs.of(5, 0, 1, 0, 2, 0, 3, 0, 4, 1, 2), 7, 7, 7, 2, -1);
        int[] due = {2, 1, 1, 1, 1};
        for (int v = 0; v < 5; v++) {
            Expect.due("saturation(" + v + ")", x.saturation(v), due[v]);
        }
        x.paint(0, -1);
        Expect.due("saturation(0) whatever its own is", x.saturation(0), 2);
        Expect.due("saturation(3)", x.saturation(3), 0);
        x.paint(4, 29);
        Expect.due("saturation(0)", x.saturation(0), 3);
        for (int bad : new int[] {-1, 5, 29, 30, Integer.MIN_VALUE, Integer.MAX_VALUE}) {
            Expect.due("saturation(" + bad + ")", x.saturation(bad), -1);
        }
        x = Graphs.complete(30);
        for (int v = 0; v < 30; v++) {
            x.paint(v, v);
        }
        Expect.due("saturation(29) of 30", x.saturation(29), 29);
    }
}
