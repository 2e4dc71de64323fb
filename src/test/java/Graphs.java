/** Graphs that several tests use. */
final class Graphs {
    private Graphs() {
    }

    static ColourProof of(int n, int... ends) {
        ColourProof x = new ColourProof();
        x.graph(n);
        for (int i = 0; i + 1 < ends.length; i += 2) {
            x.edge(ends[i], ends[i + 1], true);
        }
        return x;
    }

    static ColourProof drawn(int n, int seed, int part) {
        ColourProof x = new ColourProof();
        x.graph(n);
        x.draw(seed, part);
        return x;
    }

    static ColourProof complete(int n) {
        return drawn(n, 1, 100);
    }

    static ColourProof ring(int n) {
        ColourProof x = new ColourProof();
        x.graph(n);
        for (int v = 0; v < n; v++) {
            x.edge(v, (v + 1) % n, true);
        }
        return x;
    }

    /** Without triangles, but not to be coloured with three colours. */
    static ColourProof groetzsch() {
        ColourProof x = of(11);
        for (int v = 0; v < 5; v++) {
            x.edge(v, (v + 1) % 5, true);
            x.edge(v + 5, (v + 1) % 5, true);
            x.edge(v + 5, (v + 4) % 5, true);
            x.edge(v + 5, 10, true);
        }
        return x;
    }

    /** Its SEARCH with 6 colours finds nothing and writes just 3,000 lines. */
    static ColourProof justFits() {
        ColourProof x = drawn(30, 4687, 40);
        x.turn(23, 24);
        return x;
    }

    /** Its SEARCH with 6 colours would write 3,001 lines. */
    static ColourProof justTooLong() {
        ColourProof x = drawn(30, 6858, 38);
        x.turn(13, 23);
        return x;
    }
}
